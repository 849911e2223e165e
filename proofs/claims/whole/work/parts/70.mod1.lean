
theorem lz_div {a b : Int} (h0 : 0 ≤ a) (ha : a < 9223372036854775808) (h1 : 0 < b) (hb : b < 9223372036854775808) : lz a / lz b = lz (a / b) := by
  apply Int64.toInt_inj.mp
  have h3 : a / b ≤ a := Int.ediv_le_self b h0
  have h4 : 0 ≤ a / b := Int.ediv_nonneg h0 (by omega)
  rw [Int64.toInt_div, lz_toInt ⟨by omega, ha⟩, lz_toInt ⟨by omega, hb⟩, lz_toInt ⟨by omega, by omega⟩, Int.tdiv_eq_ediv_of_nonneg h0]
  exact Int.bmod_eq_of_le (by omega) (by omega)
theorem lz_rem {a b : Int} (h0 : 0 ≤ a) (ha : a < 9223372036854775808) (h1 : 0 < b) (hb : b < 9223372036854775808) : lz a - lz a / lz b * lz b = lz (a % b) := by
  rw [lz_div h0 ha h1 hb, lz_mul, lz_sub]
  congr 1
  have := Int.emod_add_mul_ediv a b
  rw [Int.mul_comm] at this
  omega
section Rem
variable {p : Program} {l : Launch} {e : Env} {R : Room} {s : State} {m : MethodId} {args : Array Value} {below : List Frame} {meth : Method} {c : Code} {H : Heap} {locs : List Loc} {cells slots : Nat} {Q : State → Prop} {cc : ByteArray} {pc : Nat} {ls : Array Slot} {rest : List Value}
theorem zk_lrem (hexec : p.tables.exec = Jvm.exec) (hb : c.code = cc) {x y : Int} (h0 : 0 ≤ x) (hx : x < 9223372036854775808) (h1 : 0 < y) (hy : y < 9223372036854775808) (hdg : decode cc pc = .ok (.lrem, 1)) (k : W p l e R s m args below meth c H locs cells slots Q (F0 m (pc + 1) ls (.long (lz (x % y)) :: rest))) : W p l e R s m args below meth c H locs cells slots Q (F0 m (pc) ls (.long (lz y) :: .long (lz x) :: rest)) := lv_lrem hexec hb hdg (fun q => by have q2 := (lz_eq (a := y) (b := 0) ⟨by omega, hy⟩ ⟨by omega, by omega⟩).mp q; omega) (by rw [lz_rem h0 hx h1 hy]; exact k)
end Rem
theorem l2i_z (z : Int) : (lz z).toInt32 = iz z := Int64.toInt32_ofInt
/-- the model's tape holds the bytes bt -/
def RT (tp : Int → Int32) (bt : Int → Int) : Prop := ∀ j : Int, tp j &&& iz 255 = iz (bt j)
theorem nar255 (y : Int32) : vp_nar .byte (y.toInt8.toInt32) &&& iz 255 = y &&& iz 255 := by
  apply Int32.toBitVec_inj.mp
  rw [show vp_nar .byte (y.toInt8.toInt32) = y.toInt8.toInt32.toInt8.toInt32 from rfl, Int32.toBitVec_and, Int32.toBitVec_and, Int8.toBitVec_toInt32, Int32.toBitVec_toInt8, Int8.toBitVec_toInt32, Int32.toBitVec_toInt8, show (iz 255).toBitVec = 255#32 from rfl]
  apply BitVec.eq_of_getLsbD_eq
  intro i hi
  rw [BitVec.getLsbD_and, BitVec.getLsbD_and]
  by_cases h8 : i < 8
  · simp [BitVec.getElem_signExtend, BitVec.getLsbD_signExtend, h8, hi]
  · have : (255#32).getLsbD i = false := by
      have h9 : ∀ j : Nat, j < 32 → ¬ j < 8 → (255#32).getLsbD j = false := by decide
      exact h9 i hi h8
    rw [this, Bool.and_false, Bool.and_false]
theorem RT_put {tp : Int → Int32} {bt : Int → Int} (h : RT tp bt) (z : Int) (x : Int32) (s : Int) : RT (us tp z (vp_nar .byte ((x >>> (iz s &&& 31)).toInt8.toInt32))) (us bt z (byt x s)) := by
  intro j
  unfold us
  by_cases q : j = z
  · rw [if_pos q, if_pos q, nar255]
    exact byt_eq x s
  · rw [if_neg q, if_neg q]
    exact h j
def a5 (a0 a1 a2 a3 a4 : Int32) (w : Int) : Int32 := if w = 0 then a0 else if w = 1 then a1 else if w = 2 then a2 else if w = 3 then a3 else a4
def fdN (bt : Int → Int) (td : Int) (f : Int → Int32) : Nat → Int → Int
  | 0 => bt
  | w + 1 => put4 (fdN bt td f w) (td + 4 * (w : Int)) (f (w : Int))
theorem fd_eq (bt : Int → Int) (td : Int) (a0 a1 a2 a3 a4 : Int32) : fdN bt td (a5 a0 a1 a2 a3 a4) 5 = fd bt td a0 a1 a2 a3 a4 := by
  unfold fd fdN fdN fdN fdN fdN fdN a5
  simp
theorem hw_X9_thrown_3af6b2 : (.fieldLink RX9 61 "StoneDatesModel" "thrown" "I" : Cond) ∈ wsX9_thrown := by decide +kernel
theorem hi_X9_thrown_X9 : ∀ w ∈ u_ws RX9 TX9 33, w ∈ wsX9_thrown := by decide +kernel
set_option maxHeartbeats 4000000 in
set_option maxRecDepth 100000 in
theorem c_X9_thrown (l : Launch) (G : GG) (mo : Nat) (th : Int) (bsA : Nat) (tw : Int) (tpA : Nat) (td : Int) (sz : Int) (at_ : Int) (iw : Bool) (loA : Nat) (hiA : Nat) (sl : Int64) (sh : Int64) (toA : Nat) (mnA : Nat) (dyA : Nat) (sn : Int) (frA : Nat) (t2A : Nat) (faA : Nat) (dn : Int) (iso : Bool) (akA : Nat) (am : Int) (wr : Int) (paA : Nat) (ofA : Nat) (seA : Nat) (ecA : Nat) (em : Int) (nmA : Nat) (bst : Int) (bmn : Int) (bsm : Int) : Ci l yX9_thrown wsX9_thrown ({ frames := 0, cells := 0, slots := 0, locals := 0 }) G E0 [.ref mo] [(mo, .inr (7, .int (iz th) :: .ref bsA :: .int (iz tw) :: .ref tpA :: .int (iz td) :: .int (iz sz) :: .int (iz at_) :: .int (zb iw) :: .ref loA :: .ref hiA :: .long sl :: .long sh :: .ref toA :: .ref mnA :: .ref dyA :: .int (iz sn) :: .ref frA :: .ref t2A :: .ref faA :: .int (iz dn) :: .int (zb iso) :: .ref akA :: .int (iz am) :: .int (iz wr) :: .ref paA :: .ref ofA :: .ref seA :: .ref ecA :: .int (iz em) :: .ref nmA :: .int (iz bst) :: .int (iz bmn) :: .long (lz bsm) :: []))] 0 0 (fun _ : Unit => [(mo, .inr (7, .int (iz th) :: .ref bsA :: .int (iz tw) :: .ref tpA :: .int (iz td) :: .int (iz sz) :: .int (iz at_) :: .int (zb iw) :: .ref loA :: .ref hiA :: .long sl :: .long sh :: .ref toA :: .ref mnA :: .ref dyA :: .int (iz sn) :: .ref frA :: .ref t2A :: .ref faA :: .int (iz dn) :: .int (zb iso) :: .ref akA :: .int (iz am) :: .int (iz wr) :: .ref paA :: .ref ofA :: .ref seA :: .ref ecA :: .int (iz em) :: .ref nmA :: .int (iz bst) :: .int (iz bmn) :: .long (lz bsm) :: []))]) (fun (r : Int32) (_ : Unit) => r = (iz th)) := by
  refine Ci_intro (cc := cX9_thrown) (maxL := 1) (ret := (some .int)) (by decide) rfl (Nat.le_of_ble_eq_true rfl) ?_
  intro p e s m below meth c A F hA hP hD hK hE ls hl
  have hX_ := F.1
  have hB_ := F.2.1
  have hts := F.2.2.2.2.2.1
  have hown := F.2.2.2.2.1
  have hml := F.2.2.2.1
  have hS : va_S A s.heap s.heap [] := va_S.rf
  have hl : lv_has ls 1 [(0, .ref mo)] := hl
  refine lv_aload_n hX_ hB_ dX9_thrown_0 rfl (lv_at hl 0 rfl) ?_
  refine va_get (D := G.1) (ci := 7) (v := .int (iz th)) (C := RX9) (T := TX9) (N := 33) hX_ hB_ hts hi_X9_thrown_X9 hown hK.1 hP 0 rfl rfl 0 (by decide) (hts _ hw_X9_thrown_3af6b2) (fun _ h9 => h9) rfl dX9_thrown_1 ?_
  exact fin_i (wf := (fun _ : Unit => [(mo, .inr (7, .int (iz th) :: .ref bsA :: .int (iz tw) :: .ref tpA :: .int (iz td) :: .int (iz sz) :: .int (iz at_) :: .int (zb iw) :: .ref loA :: .ref hiA :: .long sl :: .long sh :: .ref toA :: .ref mnA :: .ref dyA :: .int (iz sn) :: .ref frA :: .ref t2A :: .ref faA :: .int (iz dn) :: .int (zb iso) :: .ref akA :: .int (iz am) :: .int (iz wr) :: .ref paA :: .ref ofA :: .ref seA :: .ref ecA :: .int (iz em) :: .ref nmA :: .int (iz bst) :: .int (iz bmn) :: .long (lz bsm) :: []))])) () F rfl hP hD hK hS (by decide) (by decide) dX9_thrown_4 rfl

theorem hw_X9_bad_3af6b2 : (.fieldLink RX9 61 "StoneDatesModel" "thrown" "I" : Cond) ∈ wsX9_bad := by decide +kernel
theorem hi_X9_bad_X9 : ∀ w ∈ u_ws RX9 TX9 33, w ∈ wsX9_bad := by decide +kernel
set_option maxHeartbeats 4000000 in
set_option maxRecDepth 100000 in
theorem c_X9_badT (l : Launch) (G : GG) (mo : Nat) (th : Int) (bsA : Nat) (tw : Int) (tpA : Nat) (td : Int) (sz : Int) (at_ : Int) (iw : Bool) (loA : Nat) (hiA : Nat) (sl : Int64) (sh : Int64) (toA : Nat) (mnA : Nat) (dyA : Nat) (sn : Int) (frA : Nat) (t2A : Nat) (faA : Nat) (dn : Int) (iso : Bool) (akA : Nat) (am : Int) (wr : Int) (paA : Nat) (ofA : Nat) (seA : Nat) (ecA : Nat) (em : Int) (nmA : Nat) (bst : Int) (bmn : Int) (bsm : Int) (k : Int) : Ci l yX9_bad wsX9_bad ({ frames := 0, cells := 0, slots := 0, locals := 0 }) G E0 [.ref mo, .int (zb true), .int (iz k)] [(mo, .inr (7, .int (iz th) :: .ref bsA :: .int (iz tw) :: .ref tpA :: .int (iz td) :: .int (iz sz) :: .int (iz at_) :: .int (zb iw) :: .ref loA :: .ref hiA :: .long sl :: .long sh :: .ref toA :: .ref mnA :: .ref dyA :: .int (iz sn) :: .ref frA :: .ref t2A :: .ref faA :: .int (iz dn) :: .int (zb iso) :: .ref akA :: .int (iz am) :: .int (iz wr) :: .ref paA :: .ref ofA :: .ref seA :: .ref ecA :: .int (iz em) :: .ref nmA :: .int (iz bst) :: .int (iz bmn) :: .long (lz bsm) :: []))] 0 0 (fun _ : Unit => [(mo, .inr (7, .int (iz k) :: .ref bsA :: .int (iz tw) :: .ref tpA :: .int (iz td) :: .int (iz sz) :: .int (iz at_) :: .int (zb iw) :: .ref loA :: .ref hiA :: .long sl :: .long sh :: .ref toA :: .ref mnA :: .ref dyA :: .int (iz sn) :: .ref frA :: .ref t2A :: .ref faA :: .int (iz dn) :: .int (zb iso) :: .ref akA :: .int (iz am) :: .int (iz wr) :: .ref paA :: .ref ofA :: .ref seA :: .ref ecA :: .int (iz em) :: .ref nmA :: .int (iz bst) :: .int (iz bmn) :: .long (lz bsm) :: []))]) (fun (r : Int32) (_ : Unit) => r = (zb true)) := by
  refine Ci_intro (cc := cX9_bad) (maxL := 3) (ret := (some .boolean)) (by decide) rfl (Nat.le_of_ble_eq_true rfl) ?_
  intro p e s m below meth c A F hA hP hD hK hE ls hl
  have hX_ := F.1
  have hB_ := F.2.1
  have hts := F.2.2.2.2.2.1
  have hown := F.2.2.2.2.1
  have hml := F.2.2.2.1
  have hS : va_S A s.heap s.heap [] := va_S.rf
  have hl : lv_has ls 3 [(0, .ref mo), (1, .int (zb true)), (2, .int (iz k))] := hl
  refine lv_iload_n hX_ hB_ dX9_bad_0 rfl (lv_at hl 1 rfl) ?_
  refine zk_bif_eq (tgt := 9) hX_ hB_ dX9_bad_1 (by decide) (fun c_1 => absurd c_1 (by decide)) (fun c_1 => ?_)
  refine lv_aload_n hX_ hB_ dX9_bad_4 rfl (lv_at hl 0 rfl) ?_
  refine lv_iload_n hX_ hB_ dX9_bad_5 rfl (lv_at hl 2 rfl) ?_
  refine va_put (D := G.1) (ci := 7) (v := .int (iz k)) (ty := .int) (C := RX9) (T := TX9) (N := 33) hX_ hB_ hts hi_X9_bad_X9 tyX9 tyX9_ok nmX9 hown hK.1 hP hD hS 0 rfl rfl 0 (by decide) (hts _ hw_X9_bad_3af6b2) (fun _ h9 => h9) rfl (by decide +kernel) rfl rfl (Nat.le_of_ble_eq_true rfl) dX9_bad_6 (fun H locs hP hD hS => ?_)
  have hP : va_P G.1 vwCl [(mo, .inr (7, .int (iz k) :: .ref bsA :: .int (iz tw) :: .ref tpA :: .int (iz td) :: .int (iz sz) :: .int (iz at_) :: .int (zb iw) :: .ref loA :: .ref hiA :: .long sl :: .long sh :: .ref toA :: .ref mnA :: .ref dyA :: .int (iz sn) :: .ref frA :: .ref t2A :: .ref faA :: .int (iz dn) :: .int (zb iso) :: .ref akA :: .int (iz am) :: .int (iz wr) :: .ref paA :: .ref ofA :: .ref seA :: .ref ecA :: .int (iz em) :: .ref nmA :: .int (iz bst) :: .int (iz bmn) :: .long (lz bsm) :: []))] _ := hP
  have hD : va_D A [(mo, .inr (7, .int (iz k) :: .ref bsA :: .int (iz tw) :: .ref tpA :: .int (iz td) :: .int (iz sz) :: .int (iz at_) :: .int (zb iw) :: .ref loA :: .ref hiA :: .long sl :: .long sh :: .ref toA :: .ref mnA :: .ref dyA :: .int (iz sn) :: .ref frA :: .ref t2A :: .ref faA :: .int (iz dn) :: .int (zb iso) :: .ref akA :: .int (iz am) :: .int (iz wr) :: .ref paA :: .ref ofA :: .ref seA :: .ref ecA :: .int (iz em) :: .ref nmA :: .int (iz bst) :: .int (iz bmn) :: .long (lz bsm) :: []))] := hD
  refine lv_iload_n hX_ hB_ dX9_bad_9 rfl (lv_at hl 1 rfl) ?_
  exact fin_i (wf := (fun _ : Unit => [(mo, .inr (7, .int (iz k) :: .ref bsA :: .int (iz tw) :: .ref tpA :: .int (iz td) :: .int (iz sz) :: .int (iz at_) :: .int (zb iw) :: .ref loA :: .ref hiA :: .long sl :: .long sh :: .ref toA :: .ref mnA :: .ref dyA :: .int (iz sn) :: .ref frA :: .ref t2A :: .ref faA :: .int (iz dn) :: .int (zb iso) :: .ref akA :: .int (iz am) :: .int (iz wr) :: .ref paA :: .ref ofA :: .ref seA :: .ref ecA :: .int (iz em) :: .ref nmA :: .int (iz bst) :: .int (iz bmn) :: .long (lz bsm) :: []))])) () F (zb_nar _) hP hD hK hS (by decide) (by decide) dX9_bad_10 rfl

set_option maxHeartbeats 4000000 in
set_option maxRecDepth 100000 in
theorem c_X9_badF (l : Launch) (G : GG) (mo : Nat) (th : Int) (bsA : Nat) (tw : Int) (tpA : Nat) (td : Int) (sz : Int) (at_ : Int) (iw : Bool) (loA : Nat) (hiA : Nat) (sl : Int64) (sh : Int64) (toA : Nat) (mnA : Nat) (dyA : Nat) (sn : Int) (frA : Nat) (t2A : Nat) (faA : Nat) (dn : Int) (iso : Bool) (akA : Nat) (am : Int) (wr : Int) (paA : Nat) (ofA : Nat) (seA : Nat) (ecA : Nat) (em : Int) (nmA : Nat) (bst : Int) (bmn : Int) (bsm : Int) (k : Int) : Ci l yX9_bad wsX9_bad ({ frames := 0, cells := 0, slots := 0, locals := 0 }) G E0 [.ref mo, .int (zb false), .int (iz k)] [(mo, .inr (7, .int (iz th) :: .ref bsA :: .int (iz tw) :: .ref tpA :: .int (iz td) :: .int (iz sz) :: .int (iz at_) :: .int (zb iw) :: .ref loA :: .ref hiA :: .long sl :: .long sh :: .ref toA :: .ref mnA :: .ref dyA :: .int (iz sn) :: .ref frA :: .ref t2A :: .ref faA :: .int (iz dn) :: .int (zb iso) :: .ref akA :: .int (iz am) :: .int (iz wr) :: .ref paA :: .ref ofA :: .ref seA :: .ref ecA :: .int (iz em) :: .ref nmA :: .int (iz bst) :: .int (iz bmn) :: .long (lz bsm) :: []))] 0 0 (fun _ : Unit => [(mo, .inr (7, .int (iz th) :: .ref bsA :: .int (iz tw) :: .ref tpA :: .int (iz td) :: .int (iz sz) :: .int (iz at_) :: .int (zb iw) :: .ref loA :: .ref hiA :: .long sl :: .long sh :: .ref toA :: .ref mnA :: .ref dyA :: .int (iz sn) :: .ref frA :: .ref t2A :: .ref faA :: .int (iz dn) :: .int (zb iso) :: .ref akA :: .int (iz am) :: .int (iz wr) :: .ref paA :: .ref ofA :: .ref seA :: .ref ecA :: .int (iz em) :: .ref nmA :: .int (iz bst) :: .int (iz bmn) :: .long (lz bsm) :: []))]) (fun (r : Int32) (_ : Unit) => r = (zb false)) := by
  refine Ci_intro (cc := cX9_bad) (maxL := 3) (ret := (some .boolean)) (by decide) rfl (Nat.le_of_ble_eq_true rfl) ?_
  intro p e s m below meth c A F hA hP hD hK hE ls hl
  have hX_ := F.1
  have hB_ := F.2.1
  have hts := F.2.2.2.2.2.1
  have hown := F.2.2.2.2.1
  have hml := F.2.2.2.1
  have hS : va_S A s.heap s.heap [] := va_S.rf
  have hl : lv_has ls 3 [(0, .ref mo), (1, .int (zb false)), (2, .int (iz k))] := hl
  refine lv_iload_n hX_ hB_ dX9_bad_0 rfl (lv_at hl 1 rfl) ?_
  refine zk_bif_eq (tgt := 9) hX_ hB_ dX9_bad_1 (by decide) (fun c_1 => ?_) (fun c_1 => absurd c_1 (by decide))
  refine lv_iload_n hX_ hB_ dX9_bad_9 rfl (lv_at hl 1 rfl) ?_
  exact fin_i (wf := (fun _ : Unit => [(mo, .inr (7, .int (iz th) :: .ref bsA :: .int (iz tw) :: .ref tpA :: .int (iz td) :: .int (iz sz) :: .int (iz at_) :: .int (zb iw) :: .ref loA :: .ref hiA :: .long sl :: .long sh :: .ref toA :: .ref mnA :: .ref dyA :: .int (iz sn) :: .ref frA :: .ref t2A :: .ref faA :: .int (iz dn) :: .int (zb iso) :: .ref akA :: .int (iz am) :: .int (iz wr) :: .ref paA :: .ref ofA :: .ref seA :: .ref ecA :: .int (iz em) :: .ref nmA :: .int (iz bst) :: .int (iz bmn) :: .long (lz bsm) :: []))])) () F (zb_nar _) hP hD hK hS (by decide) (by decide) dX9_bad_10 rfl

theorem hw_X9_town_3af6b2 : (.fieldLink RX9 61 "StoneDatesModel" "thrown" "I" : Cond) ∈ wsX9_town := by decide +kernel
theorem hi_X9_town_X9 : ∀ w ∈ u_ws RX9 TX9 33, w ∈ wsX9_town := by decide +kernel
theorem mdv_X9_bad : yX9_bad.cls = RX9 ∧ yX9_bad.cls ≠ "java/lang/invoke/MethodHandle" ∧ yX9_bad.cls ≠ "java/lang/invoke/VarHandle" ∧ (parseMethodDescriptor yX9_bad.desc).map (fun d => d.parameters.length) = some 2 := by decide +kernel
theorem hw_X9_town_5201a2 : (.fieldLink RX9 69 "StoneDatesModel" "towns" "I" : Cond) ∈ wsX9_town := by decide +kernel
theorem hw_X9_town_2e1a2b : (.fieldLink RX9 9 "StoneDatesModel" "bases" "[I" : Cond) ∈ wsX9_town := by decide +kernel
set_option maxHeartbeats 4000000 in
set_option maxRecDepth 100000 in
theorem c_X9_town (l : Launch) (G : GG) (mo : Nat) (th : Int) (bsA : Nat) (tw : Int) (tpA : Nat) (td : Int) (sz : Int) (at_ : Int) (iw : Bool) (loA : Nat) (hiA : Nat) (sl : Int64) (sh : Int64) (toA : Nat) (mnA : Nat) (dyA : Nat) (sn : Int) (frA : Nat) (t2A : Nat) (faA : Nat) (dn : Int) (iso : Bool) (akA : Nat) (am : Int) (wr : Int) (paA : Nat) (ofA : Nat) (seA : Nat) (ecA : Nat) (em : Int) (nmA : Nat) (bst : Int) (bmn : Int) (bsm : Int) (bs : Int → Int) (b : Int) (hb0 : R31 b) (ht : 0 ≤ tw ∧ tw ≤ 10) : Ci l yX9_town wsX9_town ({ frames := 1, cells := 0, slots := 0, locals := 22 }) G E0 [.ref mo, .int (iz b)] [(mo, .inr (7, .int (iz th) :: .ref bsA :: .int (iz tw) :: .ref tpA :: .int (iz td) :: .int (iz sz) :: .int (iz at_) :: .int (zb iw) :: .ref loA :: .ref hiA :: .long sl :: .long sh :: .ref toA :: .ref mnA :: .ref dyA :: .int (iz sn) :: .ref frA :: .ref t2A :: .ref faA :: .int (iz dn) :: .int (zb iso) :: .ref akA :: .int (iz am) :: .int (iz wr) :: .ref paA :: .ref ofA :: .ref seA :: .ref ecA :: .int (iz em) :: .ref nmA :: .int (iz bst) :: .int (iz bmn) :: .long (lz bsm) :: [])), (bsA, .inl (G.2 0, 10, .inl (av bs)))] 0 0 (fun u : Int × Int × (Int → Int) => match u with | (th2, tw2, bs2) => [(mo, .inr (7, .int (iz th2) :: .ref bsA :: .int (iz tw2) :: .ref tpA :: .int (iz td) :: .int (iz sz) :: .int (iz at_) :: .int (zb iw) :: .ref loA :: .ref hiA :: .long sl :: .long sh :: .ref toA :: .ref mnA :: .ref dyA :: .int (iz sn) :: .ref frA :: .ref t2A :: .ref faA :: .int (iz dn) :: .int (zb iso) :: .ref akA :: .int (iz am) :: .int (iz wr) :: .ref paA :: .ref ofA :: .ref seA :: .ref ecA :: .int (iz em) :: .ref nmA :: .int (iz bst) :: .int (iz bmn) :: .long (lz bsm) :: [])), (bsA, .inl (G.2 0, 10, .inl (av bs2)))]) (fun (r : Int32) (u : Int × Int × (Int → Int)) => match u with | (th2, tw2, bs2) => (¬ (0 ≤ b ∧ b < 4400) → th2 = 1 ∧ tw2 = tw ∧ bs2 = bs) ∧ ((0 ≤ b ∧ b < 4400) → tw = 10 → th2 = 2 ∧ tw2 = tw ∧ bs2 = bs) ∧ ((0 ≤ b ∧ b < 4400) → tw < 10 → r = iz tw ∧ th2 = 0 ∧ tw2 = tw + 1 ∧ bs2 = us bs tw b)) := by
  refine Ci_intro (cc := cX9_town) (maxL := 2) (ret := (some .int)) (by decide) rfl (Nat.le_of_ble_eq_true rfl) ?_
  intro p e s m below meth c A F hA hP hD hK hE ls hl
  have hX_ := F.1
  have hB_ := F.2.1
  have hts := F.2.2.2.2.2.1
  have hown := F.2.2.2.2.1
  have hml := F.2.2.2.1
  have hS : va_S A s.heap s.heap [] := va_S.rf
  have hl : lv_has ls 2 [(0, .ref mo), (1, .int (iz b))] := hl
  refine lv_aload_n hX_ hB_ dX9_town_0 rfl (lv_at hl 0 rfl) ?_
  refine zk_iconst hX_ hB_ dX9_town_1 ?_
  refine va_put (D := G.1) (ci := 7) (v := .int (iz 0)) (ty := .int) (C := RX9) (T := TX9) (N := 33) hX_ hB_ hts hi_X9_town_X9 tyX9 tyX9_ok nmX9 hown hK.1 hP hD hS 0 rfl rfl 0 (by decide) (hts _ hw_X9_town_3af6b2) (fun _ h9 => h9) rfl (by decide +kernel) rfl rfl (Nat.le_of_ble_eq_true rfl) dX9_town_2 (fun H locs hP hD hS => ?_)
  have hP : va_P G.1 vwCl [(mo, .inr (7, .int (iz 0) :: .ref bsA :: .int (iz tw) :: .ref tpA :: .int (iz td) :: .int (iz sz) :: .int (iz at_) :: .int (zb iw) :: .ref loA :: .ref hiA :: .long sl :: .long sh :: .ref toA :: .ref mnA :: .ref dyA :: .int (iz sn) :: .ref frA :: .ref t2A :: .ref faA :: .int (iz dn) :: .int (zb iso) :: .ref akA :: .int (iz am) :: .int (iz wr) :: .ref paA :: .ref ofA :: .ref seA :: .ref ecA :: .int (iz em) :: .ref nmA :: .int (iz bst) :: .int (iz bmn) :: .long (lz bsm) :: [])), (bsA, .inl (G.2 0, 10, .inl (av bs)))] _ := hP
  have hD : va_D A [(mo, .inr (7, .int (iz 0) :: .ref bsA :: .int (iz tw) :: .ref tpA :: .int (iz td) :: .int (iz sz) :: .int (iz at_) :: .int (zb iw) :: .ref loA :: .ref hiA :: .long sl :: .long sh :: .ref toA :: .ref mnA :: .ref dyA :: .int (iz sn) :: .ref frA :: .ref t2A :: .ref faA :: .int (iz dn) :: .int (zb iso) :: .ref akA :: .int (iz am) :: .int (iz wr) :: .ref paA :: .ref ofA :: .ref seA :: .ref ecA :: .int (iz em) :: .ref nmA :: .int (iz bst) :: .int (iz bmn) :: .long (lz bsm) :: [])), (bsA, .inl (G.2 0, 10, .inl (av bs)))] := hD
  refine lv_aload_n hX_ hB_ dX9_town_5 rfl (lv_at hl 0 rfl) ?_
  refine lv_iload_n hX_ hB_ dX9_town_6 rfl (lv_at hl 1 rfl) ?_
  refine zk_if_lt (tgt := 17) hX_ hB_ (by omega) dX9_town_7 (by decide) (fun c_7 => ?_) (fun c_7 => ?_)
  · skip
    refine zk_iconst hX_ hB_ dX9_town_17 ?_
    refine zk_topi (y := (zb true)) rfl ?_
    refine lv_goto (tgt := 22) hX_ hB_ dX9_town_18 (by decide) ?_
    refine zk_iconst hX_ hB_ dX9_town_22 ?_
    refine back_i (wr := [(bsA, .inl (G.2 0, 10, .inl (av bs)))]) (run_V (As := [.int (zb true), .int (iz 1)]) (rest := []) (wc := [(mo, .inr (7, .int (iz 0) :: .ref bsA :: .int (iz tw) :: .ref tpA :: .int (iz td) :: .int (iz sz) :: .int (iz at_) :: .int (zb iw) :: .ref loA :: .ref hiA :: .long sl :: .long sh :: .ref toA :: .ref mnA :: .ref dyA :: .int (iz sn) :: .ref frA :: .ref t2A :: .ref faA :: .int (iz dn) :: .int (zb iso) :: .ref akA :: .int (iz am) :: .int (iz wr) :: .ref paA :: .ref ofA :: .ref seA :: .ref ecA :: .int (iz em) :: .ref nmA :: .int (iz bst) :: .int (iz bmn) :: .long (lz bsm) :: []))]) F (c_X9_badT l G mo 0 bsA tw tpA td sz at_ iw loA hiA sl sh toA mnA dyA sn frA t2A faA dn iso akA am wr paA ofA seA ecA em nmA bst bmn bsm 1 _) ext0 gX9_town_X9_bad rfl rfl rfl mdv_X9_bad ⟨Nat.le_of_ble_eq_true rfl, Nat.le_of_ble_eq_true rfl⟩ (va_recv hK.1 (hP.sub (ws' := [(mo, .inr (7, .int (iz 0) :: .ref bsA :: .int (iz tw) :: .ref tpA :: .int (iz td) :: .int (iz sz) :: .int (iz at_) :: .int (zb iw) :: .ref loA :: .ref hiA :: .long sl :: .long sh :: .ref toA :: .ref mnA :: .ref dyA :: .int (iz sn) :: .ref frA :: .ref t2A :: .ref faA :: .int (iz dn) :: .int (zb iso) :: .ref akA :: .int (iz am) :: .int (iz wr) :: .ref paA :: .ref ofA :: .ref seA :: .ref ecA :: .int (iz em) :: .ref nmA :: .int (iz bst) :: .int (iz bmn) :: .long (lz bsm) :: []))]) [0] rfl) (ci := 7) (q0 := 0) rfl rfl) (pre_of ext0 hK hP hD hS hA trivial [0] (by decide) rfl _) rfl hl.1 (Nat.le_of_ble_eq_true rfl) dX9_town_23 ⟨by decide, by decide⟩) hP hD hS hA [0] [1] rfl rfl (by decide) (by decide) (fun r__ u__ H locs hw hP hD hS => ?_)
    subst hw
    have hP := hP.sub (ws' := [(mo, .inr (7, .int (iz 1) :: .ref bsA :: .int (iz tw) :: .ref tpA :: .int (iz td) :: .int (iz sz) :: .int (iz at_) :: .int (zb iw) :: .ref loA :: .ref hiA :: .long sl :: .long sh :: .ref toA :: .ref mnA :: .ref dyA :: .int (iz sn) :: .ref frA :: .ref t2A :: .ref faA :: .int (iz dn) :: .int (zb iso) :: .ref akA :: .int (iz am) :: .int (iz wr) :: .ref paA :: .ref ofA :: .ref seA :: .ref ecA :: .int (iz em) :: .ref nmA :: .int (iz bst) :: .int (iz bmn) :: .long (lz bsm) :: [])), (bsA, .inl (G.2 0, 10, .inl (av bs)))]) [1, 0] rfl
    have hD := hD.sub (ws' := [(mo, .inr (7, .int (iz 1) :: .ref bsA :: .int (iz tw) :: .ref tpA :: .int (iz td) :: .int (iz sz) :: .int (iz at_) :: .int (zb iw) :: .ref loA :: .ref hiA :: .long sl :: .long sh :: .ref toA :: .ref mnA :: .ref dyA :: .int (iz sn) :: .ref frA :: .ref t2A :: .ref faA :: .int (iz dn) :: .int (zb iso) :: .ref akA :: .int (iz am) :: .int (iz wr) :: .ref paA :: .ref ofA :: .ref seA :: .ref ecA :: .int (iz em) :: .ref nmA :: .int (iz bst) :: .int (iz bmn) :: .long (lz bsm) :: [])), (bsA, .inl (G.2 0, 10, .inl (av bs)))]) [1, 0] (by decide) rfl
    refine zk_bif_ne (tgt := 51) hX_ hB_ dX9_town_26 (by decide) (fun c_26 => ?_) (fun c_26 => absurd c_26 (by decide))
    refine zk_iconst hX_ hB_ dX9_town_51 ?_
    exact fin_i (wf := (fun u : Int × Int × (Int → Int) => match u with | (th2, tw2, bs2) => [(mo, .inr (7, .int (iz th2) :: .ref bsA :: .int (iz tw2) :: .ref tpA :: .int (iz td) :: .int (iz sz) :: .int (iz at_) :: .int (zb iw) :: .ref loA :: .ref hiA :: .long sl :: .long sh :: .ref toA :: .ref mnA :: .ref dyA :: .int (iz sn) :: .ref frA :: .ref t2A :: .ref faA :: .int (iz dn) :: .int (zb iso) :: .ref akA :: .int (iz am) :: .int (iz wr) :: .ref paA :: .ref ofA :: .ref seA :: .ref ecA :: .int (iz em) :: .ref nmA :: .int (iz bst) :: .int (iz bmn) :: .long (lz bsm) :: [])), (bsA, .inl (G.2 0, 10, .inl (av bs2)))])) (1, tw, bs) F rfl hP hD hK hS (by decide) (by decide) dX9_town_52 (by exact ⟨fun _ => ⟨rfl, rfl, rfl⟩, fun q => absurd q (by omega), fun q => absurd q (by omega)⟩)
  · skip
    refine lv_iload_n hX_ hB_ dX9_town_10 rfl (lv_at hl 1 rfl) ?_
    refine zk_sipush hX_ hB_ (by decide) dX9_town_11 ?_
    refine zk_icmp_le (tgt := 21) hX_ hB_ (by omega) (by omega) dX9_town_14 (by decide) (fun c_14 => ?_) (fun c_14 => ?_)
    · skip
      refine zk_iconst hX_ hB_ dX9_town_21 ?_
      refine zk_topi (y := (zb false)) rfl ?_
      refine zk_iconst hX_ hB_ dX9_town_22 ?_
      refine back_i (wr := [(bsA, .inl (G.2 0, 10, .inl (av bs)))]) (run_V (As := [.int (zb false), .int (iz 1)]) (rest := []) (wc := [(mo, .inr (7, .int (iz 0) :: .ref bsA :: .int (iz tw) :: .ref tpA :: .int (iz td) :: .int (iz sz) :: .int (iz at_) :: .int (zb iw) :: .ref loA :: .ref hiA :: .long sl :: .long sh :: .ref toA :: .ref mnA :: .ref dyA :: .int (iz sn) :: .ref frA :: .ref t2A :: .ref faA :: .int (iz dn) :: .int (zb iso) :: .ref akA :: .int (iz am) :: .int (iz wr) :: .ref paA :: .ref ofA :: .ref seA :: .ref ecA :: .int (iz em) :: .ref nmA :: .int (iz bst) :: .int (iz bmn) :: .long (lz bsm) :: []))]) F (c_X9_badF l G mo 0 bsA tw tpA td sz at_ iw loA hiA sl sh toA mnA dyA sn frA t2A faA dn iso akA am wr paA ofA seA ecA em nmA bst bmn bsm 1 _) ext0 gX9_town_X9_bad rfl rfl rfl mdv_X9_bad ⟨Nat.le_of_ble_eq_true rfl, Nat.le_of_ble_eq_true rfl⟩ (va_recv hK.1 (hP.sub (ws' := [(mo, .inr (7, .int (iz 0) :: .ref bsA :: .int (iz tw) :: .ref tpA :: .int (iz td) :: .int (iz sz) :: .int (iz at_) :: .int (zb iw) :: .ref loA :: .ref hiA :: .long sl :: .long sh :: .ref toA :: .ref mnA :: .ref dyA :: .int (iz sn) :: .ref frA :: .ref t2A :: .ref faA :: .int (iz dn) :: .int (zb iso) :: .ref akA :: .int (iz am) :: .int (iz wr) :: .ref paA :: .ref ofA :: .ref seA :: .ref ecA :: .int (iz em) :: .ref nmA :: .int (iz bst) :: .int (iz bmn) :: .long (lz bsm) :: []))]) [0] rfl) (ci := 7) (q0 := 0) rfl rfl) (pre_of ext0 hK hP hD hS hA trivial [0] (by decide) rfl _) rfl hl.1 (Nat.le_of_ble_eq_true rfl) dX9_town_23 ⟨by decide, by decide⟩) hP hD hS hA [0] [1] rfl rfl (by decide) (by decide) (fun r__ u__ H locs hw hP hD hS => ?_)
      subst hw
      have hP := hP.sub (ws' := [(mo, .inr (7, .int (iz 0) :: .ref bsA :: .int (iz tw) :: .ref tpA :: .int (iz td) :: .int (iz sz) :: .int (iz at_) :: .int (zb iw) :: .ref loA :: .ref hiA :: .long sl :: .long sh :: .ref toA :: .ref mnA :: .ref dyA :: .int (iz sn) :: .ref frA :: .ref t2A :: .ref faA :: .int (iz dn) :: .int (zb iso) :: .ref akA :: .int (iz am) :: .int (iz wr) :: .ref paA :: .ref ofA :: .ref seA :: .ref ecA :: .int (iz em) :: .ref nmA :: .int (iz bst) :: .int (iz bmn) :: .long (lz bsm) :: [])), (bsA, .inl (G.2 0, 10, .inl (av bs)))]) [1, 0] rfl
      have hD := hD.sub (ws' := [(mo, .inr (7, .int (iz 0) :: .ref bsA :: .int (iz tw) :: .ref tpA :: .int (iz td) :: .int (iz sz) :: .int (iz at_) :: .int (zb iw) :: .ref loA :: .ref hiA :: .long sl :: .long sh :: .ref toA :: .ref mnA :: .ref dyA :: .int (iz sn) :: .ref frA :: .ref t2A :: .ref faA :: .int (iz dn) :: .int (zb iso) :: .ref akA :: .int (iz am) :: .int (iz wr) :: .ref paA :: .ref ofA :: .ref seA :: .ref ecA :: .int (iz em) :: .ref nmA :: .int (iz bst) :: .int (iz bmn) :: .long (lz bsm) :: [])), (bsA, .inl (G.2 0, 10, .inl (av bs)))]) [1, 0] (by decide) rfl
      refine zk_bif_ne (tgt := 51) hX_ hB_ dX9_town_26 (by decide) (fun c_26 => absurd c_26 (by decide)) (fun c_26 => ?_)
      refine lv_aload_n hX_ hB_ dX9_town_29 rfl (lv_at hl 0 rfl) ?_
      refine lv_aload_n hX_ hB_ dX9_town_30 rfl (lv_at hl 0 rfl) ?_
      refine va_get (D := G.1) (ci := 7) (v := .int (iz tw)) (C := RX9) (T := TX9) (N := 33) hX_ hB_ hts hi_X9_town_X9 hown hK.1 hP 0 rfl rfl 2 (by decide) (hts _ hw_X9_town_5201a2) (fun _ h9 => h9) rfl dX9_town_31 ?_
      refine zk_bipush hX_ hB_ (by decide) dX9_town_34 ?_
      refine zk_icmp_ne (tgt := 43) hX_ hB_ (by omega) (by omega) dX9_town_36 (by decide) (fun c_36 => ?_) (fun c_36 => ?_)
      · skip
        refine zk_iconst hX_ hB_ dX9_town_43 ?_
        refine zk_topi (y := (zb false)) rfl ?_
        refine zk_iconst hX_ hB_ dX9_town_44 ?_
        refine back_i (wr := [(bsA, .inl (G.2 0, 10, .inl (av bs)))]) (run_V (As := [.int (zb false), .int (iz 2)]) (rest := []) (wc := [(mo, .inr (7, .int (iz 0) :: .ref bsA :: .int (iz tw) :: .ref tpA :: .int (iz td) :: .int (iz sz) :: .int (iz at_) :: .int (zb iw) :: .ref loA :: .ref hiA :: .long sl :: .long sh :: .ref toA :: .ref mnA :: .ref dyA :: .int (iz sn) :: .ref frA :: .ref t2A :: .ref faA :: .int (iz dn) :: .int (zb iso) :: .ref akA :: .int (iz am) :: .int (iz wr) :: .ref paA :: .ref ofA :: .ref seA :: .ref ecA :: .int (iz em) :: .ref nmA :: .int (iz bst) :: .int (iz bmn) :: .long (lz bsm) :: []))]) F (c_X9_badF l G mo 0 bsA tw tpA td sz at_ iw loA hiA sl sh toA mnA dyA sn frA t2A faA dn iso akA am wr paA ofA seA ecA em nmA bst bmn bsm 2 _) ext0 gX9_town_X9_bad rfl rfl rfl mdv_X9_bad ⟨Nat.le_of_ble_eq_true rfl, Nat.le_of_ble_eq_true rfl⟩ (va_recv hK.1 (hP.sub (ws' := [(mo, .inr (7, .int (iz 0) :: .ref bsA :: .int (iz tw) :: .ref tpA :: .int (iz td) :: .int (iz sz) :: .int (iz at_) :: .int (zb iw) :: .ref loA :: .ref hiA :: .long sl :: .long sh :: .ref toA :: .ref mnA :: .ref dyA :: .int (iz sn) :: .ref frA :: .ref t2A :: .ref faA :: .int (iz dn) :: .int (zb iso) :: .ref akA :: .int (iz am) :: .int (iz wr) :: .ref paA :: .ref ofA :: .ref seA :: .ref ecA :: .int (iz em) :: .ref nmA :: .int (iz bst) :: .int (iz bmn) :: .long (lz bsm) :: []))]) [0] rfl) (ci := 7) (q0 := 0) rfl rfl) (pre_of ext0 hK hP hD hS hA trivial [0] (by decide) rfl _) rfl hl.1 (Nat.le_of_ble_eq_true rfl) dX9_town_45 ⟨by decide, by decide⟩) hP hD hS hA [0] [1] rfl rfl (by decide) (by decide) (fun r__ u__ H locs hw hP hD hS => ?_)
        subst hw
        have hP := hP.sub (ws' := [(mo, .inr (7, .int (iz 0) :: .ref bsA :: .int (iz tw) :: .ref tpA :: .int (iz td) :: .int (iz sz) :: .int (iz at_) :: .int (zb iw) :: .ref loA :: .ref hiA :: .long sl :: .long sh :: .ref toA :: .ref mnA :: .ref dyA :: .int (iz sn) :: .ref frA :: .ref t2A :: .ref faA :: .int (iz dn) :: .int (zb iso) :: .ref akA :: .int (iz am) :: .int (iz wr) :: .ref paA :: .ref ofA :: .ref seA :: .ref ecA :: .int (iz em) :: .ref nmA :: .int (iz bst) :: .int (iz bmn) :: .long (lz bsm) :: [])), (bsA, .inl (G.2 0, 10, .inl (av bs)))]) [1, 0] rfl
        have hD := hD.sub (ws' := [(mo, .inr (7, .int (iz 0) :: .ref bsA :: .int (iz tw) :: .ref tpA :: .int (iz td) :: .int (iz sz) :: .int (iz at_) :: .int (zb iw) :: .ref loA :: .ref hiA :: .long sl :: .long sh :: .ref toA :: .ref mnA :: .ref dyA :: .int (iz sn) :: .ref frA :: .ref t2A :: .ref faA :: .int (iz dn) :: .int (zb iso) :: .ref akA :: .int (iz am) :: .int (iz wr) :: .ref paA :: .ref ofA :: .ref seA :: .ref ecA :: .int (iz em) :: .ref nmA :: .int (iz bst) :: .int (iz bmn) :: .long (lz bsm) :: [])), (bsA, .inl (G.2 0, 10, .inl (av bs)))]) [1, 0] (by decide) rfl
        refine zk_bif_eq (tgt := 53) hX_ hB_ dX9_town_48 (by decide) (fun c_48 => ?_) (fun c_48 => absurd c_48 (by decide))
        refine lv_aload_n hX_ hB_ dX9_town_53 rfl (lv_at hl 0 rfl) ?_
        refine va_get (D := G.1) (ci := 7) (v := .ref bsA) (C := RX9) (T := TX9) (N := 33) hX_ hB_ hts hi_X9_town_X9 hown hK.1 hP 0 rfl rfl 1 (by decide) (hts _ hw_X9_town_2e1a2b) (fun _ h9 => h9) rfl dX9_town_54 ?_
        refine lv_aload_n hX_ hB_ dX9_town_57 rfl (lv_at hl 0 rfl) ?_
        refine va_get (D := G.1) (ci := 7) (v := .int (iz tw)) (C := RX9) (T := TX9) (N := 33) hX_ hB_ hts hi_X9_town_X9 hown hK.1 hP 0 rfl rfl 2 (by decide) (hts _ hw_X9_town_5201a2) (fun _ h9 => h9) rfl dX9_town_58 ?_
        refine lv_iload_n hX_ hB_ dX9_town_61 rfl (lv_at hl 1 rfl) ?_
        refine zk_iast hX_ hB_ hK.1 hP hD hS 1 0 rfl rfl (by omega) (by decide) dX9_town_62 (fun H locs hP hD hS => ?_)
        have hP : va_P G.1 vwCl [(mo, .inr (7, .int (iz 0) :: .ref bsA :: .int (iz tw) :: .ref tpA :: .int (iz td) :: .int (iz sz) :: .int (iz at_) :: .int (zb iw) :: .ref loA :: .ref hiA :: .long sl :: .long sh :: .ref toA :: .ref mnA :: .ref dyA :: .int (iz sn) :: .ref frA :: .ref t2A :: .ref faA :: .int (iz dn) :: .int (zb iso) :: .ref akA :: .int (iz am) :: .int (iz wr) :: .ref paA :: .ref ofA :: .ref seA :: .ref ecA :: .int (iz em) :: .ref nmA :: .int (iz bst) :: .int (iz bmn) :: .long (lz bsm) :: [])), (bsA, .inl (G.2 0, 10, .inl (av (us bs tw b))))] _ := hP
        have hD : va_D A [(mo, .inr (7, .int (iz 0) :: .ref bsA :: .int (iz tw) :: .ref tpA :: .int (iz td) :: .int (iz sz) :: .int (iz at_) :: .int (zb iw) :: .ref loA :: .ref hiA :: .long sl :: .long sh :: .ref toA :: .ref mnA :: .ref dyA :: .int (iz sn) :: .ref frA :: .ref t2A :: .ref faA :: .int (iz dn) :: .int (zb iso) :: .ref akA :: .int (iz am) :: .int (iz wr) :: .ref paA :: .ref ofA :: .ref seA :: .ref ecA :: .int (iz em) :: .ref nmA :: .int (iz bst) :: .int (iz bmn) :: .long (lz bsm) :: [])), (bsA, .inl (G.2 0, 10, .inl (av (us bs tw b))))] := hD
        refine lv_aload_n hX_ hB_ dX9_town_63 rfl (lv_at hl 0 rfl) ?_
        refine lv_dup hX_ hB_ dX9_town_64 rfl ?_
        refine va_get (D := G.1) (ci := 7) (v := .int (iz tw)) (C := RX9) (T := TX9) (N := 33) hX_ hB_ hts hi_X9_town_X9 hown hK.1 hP 0 rfl rfl 2 (by decide) (hts _ hw_X9_town_5201a2) (fun _ h9 => h9) rfl dX9_town_65 ?_
        refine zk_iconst hX_ hB_ dX9_town_68 ?_
        refine zk_iadd hX_ hB_ dX9_town_69 ?_
        refine va_put (D := G.1) (ci := 7) (v := .int (iz (tw + 1))) (ty := .int) (C := RX9) (T := TX9) (N := 33) hX_ hB_ hts hi_X9_town_X9 tyX9 tyX9_ok nmX9 hown hK.1 hP hD hS 0 rfl rfl 2 (by decide) (hts _ hw_X9_town_5201a2) (fun _ h9 => h9) rfl (by decide +kernel) rfl rfl (Nat.le_of_ble_eq_true rfl) dX9_town_70 (fun H locs hP hD hS => ?_)
        have hP : va_P G.1 vwCl [(mo, .inr (7, .int (iz 0) :: .ref bsA :: .int (iz (tw + 1)) :: .ref tpA :: .int (iz td) :: .int (iz sz) :: .int (iz at_) :: .int (zb iw) :: .ref loA :: .ref hiA :: .long sl :: .long sh :: .ref toA :: .ref mnA :: .ref dyA :: .int (iz sn) :: .ref frA :: .ref t2A :: .ref faA :: .int (iz dn) :: .int (zb iso) :: .ref akA :: .int (iz am) :: .int (iz wr) :: .ref paA :: .ref ofA :: .ref seA :: .ref ecA :: .int (iz em) :: .ref nmA :: .int (iz bst) :: .int (iz bmn) :: .long (lz bsm) :: [])), (bsA, .inl (G.2 0, 10, .inl (av (us bs tw b))))] _ := hP
        have hD : va_D A [(mo, .inr (7, .int (iz 0) :: .ref bsA :: .int (iz (tw + 1)) :: .ref tpA :: .int (iz td) :: .int (iz sz) :: .int (iz at_) :: .int (zb iw) :: .ref loA :: .ref hiA :: .long sl :: .long sh :: .ref toA :: .ref mnA :: .ref dyA :: .int (iz sn) :: .ref frA :: .ref t2A :: .ref faA :: .int (iz dn) :: .int (zb iso) :: .ref akA :: .int (iz am) :: .int (iz wr) :: .ref paA :: .ref ofA :: .ref seA :: .ref ecA :: .int (iz em) :: .ref nmA :: .int (iz bst) :: .int (iz bmn) :: .long (lz bsm) :: [])), (bsA, .inl (G.2 0, 10, .inl (av (us bs tw b))))] := hD
        refine lv_aload_n hX_ hB_ dX9_town_73 rfl (lv_at hl 0 rfl) ?_
        refine va_get (D := G.1) (ci := 7) (v := .int (iz (tw + 1))) (C := RX9) (T := TX9) (N := 33) hX_ hB_ hts hi_X9_town_X9 hown hK.1 hP 0 rfl rfl 2 (by decide) (hts _ hw_X9_town_5201a2) (fun _ h9 => h9) rfl dX9_town_74 ?_
        refine zk_iconst hX_ hB_ dX9_town_77 ?_
        refine zk_isub hX_ hB_ dX9_town_78 ?_
        refine zk_topi (y := (iz tw)) (congrArg iz (by omega)) ?_
        exact fin_i (wf := (fun u : Int × Int × (Int → Int) => match u with | (th2, tw2, bs2) => [(mo, .inr (7, .int (iz th2) :: .ref bsA :: .int (iz tw2) :: .ref tpA :: .int (iz td) :: .int (iz sz) :: .int (iz at_) :: .int (zb iw) :: .ref loA :: .ref hiA :: .long sl :: .long sh :: .ref toA :: .ref mnA :: .ref dyA :: .int (iz sn) :: .ref frA :: .ref t2A :: .ref faA :: .int (iz dn) :: .int (zb iso) :: .ref akA :: .int (iz am) :: .int (iz wr) :: .ref paA :: .ref ofA :: .ref seA :: .ref ecA :: .int (iz em) :: .ref nmA :: .int (iz bst) :: .int (iz bmn) :: .long (lz bsm) :: [])), (bsA, .inl (G.2 0, 10, .inl (av bs2)))])) (0, tw + 1, us bs tw b) F rfl hP hD hK hS (by decide) (by decide) dX9_town_79 (by exact ⟨fun q => absurd (by omega) q, fun _ q => absurd q (by omega), fun _ _ => ⟨rfl, rfl, rfl, rfl⟩⟩)
      · skip
        refine zk_iconst hX_ hB_ dX9_town_39 ?_
        refine zk_topi (y := (zb true)) rfl ?_
        refine lv_goto (tgt := 44) hX_ hB_ dX9_town_40 (by decide) ?_
        refine zk_iconst hX_ hB_ dX9_town_44 ?_
        refine back_i (wr := [(bsA, .inl (G.2 0, 10, .inl (av bs)))]) (run_V (As := [.int (zb true), .int (iz 2)]) (rest := []) (wc := [(mo, .inr (7, .int (iz 0) :: .ref bsA :: .int (iz tw) :: .ref tpA :: .int (iz td) :: .int (iz sz) :: .int (iz at_) :: .int (zb iw) :: .ref loA :: .ref hiA :: .long sl :: .long sh :: .ref toA :: .ref mnA :: .ref dyA :: .int (iz sn) :: .ref frA :: .ref t2A :: .ref faA :: .int (iz dn) :: .int (zb iso) :: .ref akA :: .int (iz am) :: .int (iz wr) :: .ref paA :: .ref ofA :: .ref seA :: .ref ecA :: .int (iz em) :: .ref nmA :: .int (iz bst) :: .int (iz bmn) :: .long (lz bsm) :: []))]) F (c_X9_badT l G mo 0 bsA tw tpA td sz at_ iw loA hiA sl sh toA mnA dyA sn frA t2A faA dn iso akA am wr paA ofA seA ecA em nmA bst bmn bsm 2 _) ext0 gX9_town_X9_bad rfl rfl rfl mdv_X9_bad ⟨Nat.le_of_ble_eq_true rfl, Nat.le_of_ble_eq_true rfl⟩ (va_recv hK.1 (hP.sub (ws' := [(mo, .inr (7, .int (iz 0) :: .ref bsA :: .int (iz tw) :: .ref tpA :: .int (iz td) :: .int (iz sz) :: .int (iz at_) :: .int (zb iw) :: .ref loA :: .ref hiA :: .long sl :: .long sh :: .ref toA :: .ref mnA :: .ref dyA :: .int (iz sn) :: .ref frA :: .ref t2A :: .ref faA :: .int (iz dn) :: .int (zb iso) :: .ref akA :: .int (iz am) :: .int (iz wr) :: .ref paA :: .ref ofA :: .ref seA :: .ref ecA :: .int (iz em) :: .ref nmA :: .int (iz bst) :: .int (iz bmn) :: .long (lz bsm) :: []))]) [0] rfl) (ci := 7) (q0 := 0) rfl rfl) (pre_of ext0 hK hP hD hS hA trivial [0] (by decide) rfl _) rfl hl.1 (Nat.le_of_ble_eq_true rfl) dX9_town_45 ⟨by decide, by decide⟩) hP hD hS hA [0] [1] rfl rfl (by decide) (by decide) (fun r__ u__ H locs hw hP hD hS => ?_)
        subst hw
        have hP := hP.sub (ws' := [(mo, .inr (7, .int (iz 2) :: .ref bsA :: .int (iz tw) :: .ref tpA :: .int (iz td) :: .int (iz sz) :: .int (iz at_) :: .int (zb iw) :: .ref loA :: .ref hiA :: .long sl :: .long sh :: .ref toA :: .ref mnA :: .ref dyA :: .int (iz sn) :: .ref frA :: .ref t2A :: .ref faA :: .int (iz dn) :: .int (zb iso) :: .ref akA :: .int (iz am) :: .int (iz wr) :: .ref paA :: .ref ofA :: .ref seA :: .ref ecA :: .int (iz em) :: .ref nmA :: .int (iz bst) :: .int (iz bmn) :: .long (lz bsm) :: [])), (bsA, .inl (G.2 0, 10, .inl (av bs)))]) [1, 0] rfl
        have hD := hD.sub (ws' := [(mo, .inr (7, .int (iz 2) :: .ref bsA :: .int (iz tw) :: .ref tpA :: .int (iz td) :: .int (iz sz) :: .int (iz at_) :: .int (zb iw) :: .ref loA :: .ref hiA :: .long sl :: .long sh :: .ref toA :: .ref mnA :: .ref dyA :: .int (iz sn) :: .ref frA :: .ref t2A :: .ref faA :: .int (iz dn) :: .int (zb iso) :: .ref akA :: .int (iz am) :: .int (iz wr) :: .ref paA :: .ref ofA :: .ref seA :: .ref ecA :: .int (iz em) :: .ref nmA :: .int (iz bst) :: .int (iz bmn) :: .long (lz bsm) :: [])), (bsA, .inl (G.2 0, 10, .inl (av bs)))]) [1, 0] (by decide) rfl
        refine zk_bif_eq (tgt := 53) hX_ hB_ dX9_town_48 (by decide) (fun c_48 => absurd c_48 (by decide)) (fun c_48 => ?_)
        refine zk_iconst hX_ hB_ dX9_town_51 ?_
        exact fin_i (wf := (fun u : Int × Int × (Int → Int) => match u with | (th2, tw2, bs2) => [(mo, .inr (7, .int (iz th2) :: .ref bsA :: .int (iz tw2) :: .ref tpA :: .int (iz td) :: .int (iz sz) :: .int (iz at_) :: .int (zb iw) :: .ref loA :: .ref hiA :: .long sl :: .long sh :: .ref toA :: .ref mnA :: .ref dyA :: .int (iz sn) :: .ref frA :: .ref t2A :: .ref faA :: .int (iz dn) :: .int (zb iso) :: .ref akA :: .int (iz am) :: .int (iz wr) :: .ref paA :: .ref ofA :: .ref seA :: .ref ecA :: .int (iz em) :: .ref nmA :: .int (iz bst) :: .int (iz bmn) :: .long (lz bsm) :: [])), (bsA, .inl (G.2 0, 10, .inl (av bs2)))])) (2, tw, bs) F rfl hP hD hK hS (by decide) (by decide) dX9_town_52 (by exact ⟨fun q => absurd (by omega) q, fun _ _ => ⟨rfl, rfl, rfl⟩, fun _ q => absurd q (by omega)⟩)
    · skip
      refine zk_iconst hX_ hB_ dX9_town_17 ?_
      refine zk_topi (y := (zb true)) rfl ?_
      refine lv_goto (tgt := 22) hX_ hB_ dX9_town_18 (by decide) ?_
      refine zk_iconst hX_ hB_ dX9_town_22 ?_
      refine back_i (wr := [(bsA, .inl (G.2 0, 10, .inl (av bs)))]) (run_V (As := [.int (zb true), .int (iz 1)]) (rest := []) (wc := [(mo, .inr (7, .int (iz 0) :: .ref bsA :: .int (iz tw) :: .ref tpA :: .int (iz td) :: .int (iz sz) :: .int (iz at_) :: .int (zb iw) :: .ref loA :: .ref hiA :: .long sl :: .long sh :: .ref toA :: .ref mnA :: .ref dyA :: .int (iz sn) :: .ref frA :: .ref t2A :: .ref faA :: .int (iz dn) :: .int (zb iso) :: .ref akA :: .int (iz am) :: .int (iz wr) :: .ref paA :: .ref ofA :: .ref seA :: .ref ecA :: .int (iz em) :: .ref nmA :: .int (iz bst) :: .int (iz bmn) :: .long (lz bsm) :: []))]) F (c_X9_badT l G mo 0 bsA tw tpA td sz at_ iw loA hiA sl sh toA mnA dyA sn frA t2A faA dn iso akA am wr paA ofA seA ecA em nmA bst bmn bsm 1 _) ext0 gX9_town_X9_bad rfl rfl rfl mdv_X9_bad ⟨Nat.le_of_ble_eq_true rfl, Nat.le_of_ble_eq_true rfl⟩ (va_recv hK.1 (hP.sub (ws' := [(mo, .inr (7, .int (iz 0) :: .ref bsA :: .int (iz tw) :: .ref tpA :: .int (iz td) :: .int (iz sz) :: .int (iz at_) :: .int (zb iw) :: .ref loA :: .ref hiA :: .long sl :: .long sh :: .ref toA :: .ref mnA :: .ref dyA :: .int (iz sn) :: .ref frA :: .ref t2A :: .ref faA :: .int (iz dn) :: .int (zb iso) :: .ref akA :: .int (iz am) :: .int (iz wr) :: .ref paA :: .ref ofA :: .ref seA :: .ref ecA :: .int (iz em) :: .ref nmA :: .int (iz bst) :: .int (iz bmn) :: .long (lz bsm) :: []))]) [0] rfl) (ci := 7) (q0 := 0) rfl rfl) (pre_of ext0 hK hP hD hS hA trivial [0] (by decide) rfl _) rfl hl.1 (Nat.le_of_ble_eq_true rfl) dX9_town_23 ⟨by decide, by decide⟩) hP hD hS hA [0] [1] rfl rfl (by decide) (by decide) (fun r__ u__ H locs hw hP hD hS => ?_)
      subst hw
      have hP := hP.sub (ws' := [(mo, .inr (7, .int (iz 1) :: .ref bsA :: .int (iz tw) :: .ref tpA :: .int (iz td) :: .int (iz sz) :: .int (iz at_) :: .int (zb iw) :: .ref loA :: .ref hiA :: .long sl :: .long sh :: .ref toA :: .ref mnA :: .ref dyA :: .int (iz sn) :: .ref frA :: .ref t2A :: .ref faA :: .int (iz dn) :: .int (zb iso) :: .ref akA :: .int (iz am) :: .int (iz wr) :: .ref paA :: .ref ofA :: .ref seA :: .ref ecA :: .int (iz em) :: .ref nmA :: .int (iz bst) :: .int (iz bmn) :: .long (lz bsm) :: [])), (bsA, .inl (G.2 0, 10, .inl (av bs)))]) [1, 0] rfl
      have hD := hD.sub (ws' := [(mo, .inr (7, .int (iz 1) :: .ref bsA :: .int (iz tw) :: .ref tpA :: .int (iz td) :: .int (iz sz) :: .int (iz at_) :: .int (zb iw) :: .ref loA :: .ref hiA :: .long sl :: .long sh :: .ref toA :: .ref mnA :: .ref dyA :: .int (iz sn) :: .ref frA :: .ref t2A :: .ref faA :: .int (iz dn) :: .int (zb iso) :: .ref akA :: .int (iz am) :: .int (iz wr) :: .ref paA :: .ref ofA :: .ref seA :: .ref ecA :: .int (iz em) :: .ref nmA :: .int (iz bst) :: .int (iz bmn) :: .long (lz bsm) :: [])), (bsA, .inl (G.2 0, 10, .inl (av bs)))]) [1, 0] (by decide) rfl
      refine zk_bif_ne (tgt := 51) hX_ hB_ dX9_town_26 (by decide) (fun c_26 => ?_) (fun c_26 => absurd c_26 (by decide))
      refine zk_iconst hX_ hB_ dX9_town_51 ?_
      exact fin_i (wf := (fun u : Int × Int × (Int → Int) => match u with | (th2, tw2, bs2) => [(mo, .inr (7, .int (iz th2) :: .ref bsA :: .int (iz tw2) :: .ref tpA :: .int (iz td) :: .int (iz sz) :: .int (iz at_) :: .int (zb iw) :: .ref loA :: .ref hiA :: .long sl :: .long sh :: .ref toA :: .ref mnA :: .ref dyA :: .int (iz sn) :: .ref frA :: .ref t2A :: .ref faA :: .int (iz dn) :: .int (zb iso) :: .ref akA :: .int (iz am) :: .int (iz wr) :: .ref paA :: .ref ofA :: .ref seA :: .ref ecA :: .int (iz em) :: .ref nmA :: .int (iz bst) :: .int (iz bmn) :: .long (lz bsm) :: [])), (bsA, .inl (G.2 0, 10, .inl (av bs2)))])) (1, tw, bs) F rfl hP hD hK hS (by decide) (by decide) dX9_town_52 (by exact ⟨fun _ => ⟨rfl, rfl, rfl⟩, fun q => absurd q (by omega), fun q => absurd q (by omega)⟩)

theorem hw_X9_isDay_8ab22e : (.constant RX9 72 (1152000) : Cond) ∈ wsX9_isDay := by decide +kernel
theorem hw_X9_isDay_7469d5 : (.constant RX9 73 (1583999) : Cond) ∈ wsX9_isDay := by decide +kernel
set_option maxHeartbeats 4000000 in
set_option maxRecDepth 100000 in
theorem c_X9_isDay (l : Launch) (G : GG) (d : Int) (hd : R31 d) : Ci l yX9_isDay wsX9_isDay ({ frames := 0, cells := 0, slots := 0, locals := 0 }) G E0 [.int (iz d)] [] 0 0 (fun _ : Unit => []) (fun (r : Int32) (_ : Unit) => r = (zb (isDay d))) := by
  refine Ci_intro (cc := cX9_isDay) (maxL := 1) (ret := (some .boolean)) (by decide) rfl (Nat.le_of_ble_eq_true rfl) ?_
  intro p e s m below meth c A F hA hP hD hK hE ls hl
  have hX_ := F.1
  have hB_ := F.2.1
  have hts := F.2.2.2.2.2.1
  have hown := F.2.2.2.2.1
  have hml := F.2.2.2.1
  have hS : va_S A s.heap s.heap [] := va_S.rf
  have hl : lv_has ls 1 [(0, .int (iz d))] := hl
  refine lv_iload_n hX_ hB_ dX9_isDay_0 rfl (lv_at hl 0 rfl) ?_
  refine zk_ldc hX_ hB_ (1152000) hown (hts _ hw_X9_isDay_8ab22e) (by decide) dX9_isDay_1 ?_
  refine zk_icmp_lt (tgt := 16) hX_ hB_ (by omega) (by omega) dX9_isDay_3 (by decide) (fun c_3 => ?_) (fun c_3 => ?_)
  · skip
    refine zk_iconst hX_ hB_ dX9_isDay_16 ?_
    refine zk_topi (y := (zb false)) rfl ?_
    exact fin_i (wf := (fun _ : Unit => [])) () F (zb_nar _) hP hD hK hS (by decide) (by decide) dX9_isDay_17 (by refine congrArg zb ?_; unfold isDay; rw [decide_eq_false (by omega)])
  · skip
    refine lv_iload_n hX_ hB_ dX9_isDay_6 rfl (lv_at hl 0 rfl) ?_
    refine zk_ldc hX_ hB_ (1583999) hown (hts _ hw_X9_isDay_7469d5) (by decide) dX9_isDay_7 ?_
    refine zk_icmp_gt (tgt := 16) hX_ hB_ (by omega) (by omega) dX9_isDay_9 (by decide) (fun c_9 => ?_) (fun c_9 => ?_)
    · skip
      refine zk_iconst hX_ hB_ dX9_isDay_16 ?_
      refine zk_topi (y := (zb false)) rfl ?_
      exact fin_i (wf := (fun _ : Unit => [])) () F (zb_nar _) hP hD hK hS (by decide) (by decide) dX9_isDay_17 (by refine congrArg zb ?_; unfold isDay; rw [decide_eq_false (by omega)])
    · skip
      refine zk_iconst hX_ hB_ dX9_isDay_12 ?_
      refine zk_topi (y := (zb true)) rfl ?_
      refine lv_goto (tgt := 17) hX_ hB_ dX9_isDay_13 (by decide) ?_
      exact fin_i (wf := (fun _ : Unit => [])) () F (zb_nar _) hP hD hK hS (by decide) (by decide) dX9_isDay_17 (by refine congrArg zb ?_; unfold isDay; rw [decide_eq_true (by omega)])

theorem hw_X9_valueOf_e724ca : (.constant RX9 78 (144000) : Cond) ∈ wsX9_valueOf := by decide +kernel
set_option maxHeartbeats 4000000 in
set_option maxRecDepth 100000 in
theorem c_X9_valueOf (l : Launch) (G : GG) (d : Int) (k : Int) (b : Int) (hd : 0 ≤ d ∧ d < 2000000) (hk : 0 ≤ k ∧ k ≤ 9) : Ci l yX9_valueOf wsX9_valueOf ({ frames := 0, cells := 0, slots := 0, locals := 0 }) G E0 [.int (iz d), .int (iz k)] [] 0 0 (fun _ : Unit => []) (fun (r : Int32) (_ : Unit) => r = (iz (sgn d k b))) := by
  refine Ci_intro (cc := cX9_valueOf) (maxL := 2) (ret := (some .int)) (by decide) rfl (Nat.le_of_ble_eq_true rfl) ?_
  intro p e s m below meth c A F hA hP hD hK hE ls hl
  have hX_ := F.1
  have hB_ := F.2.1
  have hts := F.2.2.2.2.2.1
  have hown := F.2.2.2.2.1
  have hml := F.2.2.2.1
  have hS : va_S A s.heap s.heap [] := va_S.rf
  have hl : lv_has ls 2 [(0, .int (iz d)), (1, .int (iz k))] := hl
  refine lv_iload_n hX_ hB_ dX9_valueOf_0 rfl (lv_at hl 1 rfl) ?_
  by_cases t_1_0 : k = 0
  · skip
    refine zk_tableIn (tgt := 52) hX_ hB_ dX9_valueOf_1 (off := 51) (by omega) (by omega) (by omega) (by rw [t_1_0]; rfl) (by decide) ?_
    refine lv_iload_n hX_ hB_ dX9_valueOf_52 rfl (lv_at hl 0 rfl) ?_
    refine zk_ldc hX_ hB_ (144000) hown (hts _ hw_X9_valueOf_e724ca) (by decide) dX9_valueOf_53 ?_
    refine zk_idiv hX_ hB_ (by omega) (by omega) (by omega) (by omega) dX9_valueOf_55 ?_
    exact fin_i (wf := (fun _ : Unit => [])) () F rfl hP hD hK hS (by decide) (by decide) dX9_valueOf_56 (by refine congrArg iz ?_; unfold sgn; (try rw [t_1_0]); (try rw [t_1_1]); (try rw [t_1_2]); (try rw [t_1_3]); (try rw [t_1_4]); (try rw [t_1_5]); (try rw [t_1_6]); (try rw [t_1_7]); (try rw [t_1_8]); (try have t9 : k = 9 := (by omega)); (try rw [t9]); simp [*])
  by_cases t_1_1 : k = 1
  · skip
    refine zk_tableIn (tgt := 57) hX_ hB_ dX9_valueOf_1 (off := 56) (by omega) (by omega) (by omega) (by rw [t_1_1]; rfl) (by decide) ?_
    refine lv_iload_n hX_ hB_ dX9_valueOf_57 rfl (lv_at hl 0 rfl) ?_
    refine zk_ldc hX_ hB_ (144000) hown (hts _ hw_X9_valueOf_e724ca) (by decide) dX9_valueOf_58 ?_
    refine zk_irem hX_ hB_ (by omega) (by omega) (by omega) (by omega) dX9_valueOf_60 ?_
    refine zk_sipush hX_ hB_ (by decide) dX9_valueOf_61 ?_
    refine zk_idiv hX_ hB_ (by omega) (by omega) (by omega) (by omega) dX9_valueOf_64 ?_
    exact fin_i (wf := (fun _ : Unit => [])) () F rfl hP hD hK hS (by decide) (by decide) dX9_valueOf_65 (by refine congrArg iz ?_; unfold sgn; (try rw [t_1_0]); (try rw [t_1_1]); (try rw [t_1_2]); (try rw [t_1_3]); (try rw [t_1_4]); (try rw [t_1_5]); (try rw [t_1_6]); (try rw [t_1_7]); (try rw [t_1_8]); (try have t9 : k = 9 := (by omega)); (try rw [t9]); simp [*])
  by_cases t_1_2 : k = 2
  · skip
    refine zk_tableIn (tgt := 66) hX_ hB_ dX9_valueOf_1 (off := 65) (by omega) (by omega) (by omega) (by rw [t_1_2]; rfl) (by decide) ?_
    refine lv_iload_n hX_ hB_ dX9_valueOf_66 rfl (lv_at hl 0 rfl) ?_
    refine zk_sipush hX_ hB_ (by decide) dX9_valueOf_67 ?_
    refine zk_irem hX_ hB_ (by omega) (by omega) (by omega) (by omega) dX9_valueOf_70 ?_
    refine zk_sipush hX_ hB_ (by decide) dX9_valueOf_71 ?_
    refine zk_idiv hX_ hB_ (by omega) (by omega) (by omega) (by omega) dX9_valueOf_74 ?_
    exact fin_i (wf := (fun _ : Unit => [])) () F rfl hP hD hK hS (by decide) (by decide) dX9_valueOf_75 (by refine congrArg iz ?_; unfold sgn; (try rw [t_1_0]); (try rw [t_1_1]); (try rw [t_1_2]); (try rw [t_1_3]); (try rw [t_1_4]); (try rw [t_1_5]); (try rw [t_1_6]); (try rw [t_1_7]); (try rw [t_1_8]); (try have t9 : k = 9 := (by omega)); (try rw [t9]); simp [*])
  by_cases t_1_3 : k = 3
  · skip
    refine zk_tableIn (tgt := 76) hX_ hB_ dX9_valueOf_1 (off := 75) (by omega) (by omega) (by omega) (by rw [t_1_3]; rfl) (by decide) ?_
    refine lv_iload_n hX_ hB_ dX9_valueOf_76 rfl (lv_at hl 0 rfl) ?_
    refine zk_sipush hX_ hB_ (by decide) dX9_valueOf_77 ?_
    refine zk_irem hX_ hB_ (by omega) (by omega) (by omega) (by omega) dX9_valueOf_80 ?_
    refine zk_bipush hX_ hB_ (by decide) dX9_valueOf_81 ?_
    refine zk_idiv hX_ hB_ (by omega) (by omega) (by omega) (by omega) dX9_valueOf_83 ?_
    exact fin_i (wf := (fun _ : Unit => [])) () F rfl hP hD hK hS (by decide) (by decide) dX9_valueOf_84 (by refine congrArg iz ?_; unfold sgn; (try rw [t_1_0]); (try rw [t_1_1]); (try rw [t_1_2]); (try rw [t_1_3]); (try rw [t_1_4]); (try rw [t_1_5]); (try rw [t_1_6]); (try rw [t_1_7]); (try rw [t_1_8]); (try have t9 : k = 9 := (by omega)); (try rw [t9]); simp [*])
  by_cases t_1_4 : k = 4
  · skip
    refine zk_tableIn (tgt := 85) hX_ hB_ dX9_valueOf_1 (off := 84) (by omega) (by omega) (by omega) (by rw [t_1_4]; rfl) (by decide) ?_
    refine lv_iload_n hX_ hB_ dX9_valueOf_85 rfl (lv_at hl 0 rfl) ?_
    refine zk_bipush hX_ hB_ (by decide) dX9_valueOf_86 ?_
    refine zk_irem hX_ hB_ (by omega) (by omega) (by omega) (by omega) dX9_valueOf_88 ?_
    exact fin_i (wf := (fun _ : Unit => [])) () F rfl hP hD hK hS (by decide) (by decide) dX9_valueOf_89 (by refine congrArg iz ?_; unfold sgn; (try rw [t_1_0]); (try rw [t_1_1]); (try rw [t_1_2]); (try rw [t_1_3]); (try rw [t_1_4]); (try rw [t_1_5]); (try rw [t_1_6]); (try rw [t_1_7]); (try rw [t_1_8]); (try have t9 : k = 9 := (by omega)); (try rw [t9]); simp [*])
  by_cases t_1_5 : k = 5
  · skip
    refine zk_tableIn (tgt := 90) hX_ hB_ dX9_valueOf_1 (off := 89) (by omega) (by omega) (by omega) (by rw [t_1_5]; rfl) (by decide) ?_
    refine lv_iload_n hX_ hB_ dX9_valueOf_90 rfl (lv_at hl 0 rfl) ?_
    refine zk_iconst hX_ hB_ dX9_valueOf_91 ?_
    refine zk_iadd hX_ hB_ dX9_valueOf_92 ?_
    refine zk_bipush hX_ hB_ (by decide) dX9_valueOf_93 ?_
    refine zk_irem hX_ hB_ (by omega) (by omega) (by omega) (by omega) dX9_valueOf_95 ?_
    refine zk_iconst hX_ hB_ dX9_valueOf_96 ?_
    refine zk_iadd hX_ hB_ dX9_valueOf_97 ?_
    exact fin_i (wf := (fun _ : Unit => [])) () F rfl hP hD hK hS (by decide) (by decide) dX9_valueOf_98 (by refine congrArg iz ?_; unfold sgn; (try rw [t_1_0]); (try rw [t_1_1]); (try rw [t_1_2]); (try rw [t_1_3]); (try rw [t_1_4]); (try rw [t_1_5]); (try rw [t_1_6]); (try rw [t_1_7]); (try rw [t_1_8]); (try have t9 : k = 9 := (by omega)); (try rw [t9]); simp [*])
  by_cases t_1_6 : k = 6
  · skip
    refine zk_tableIn (tgt := 99) hX_ hB_ dX9_valueOf_1 (off := 98) (by omega) (by omega) (by omega) (by rw [t_1_6]; rfl) (by decide) ?_
    refine lv_iload_n hX_ hB_ dX9_valueOf_99 rfl (lv_at hl 0 rfl) ?_
    refine zk_bipush hX_ hB_ (by decide) dX9_valueOf_100 ?_
    refine zk_iadd hX_ hB_ dX9_valueOf_102 ?_
    refine zk_bipush hX_ hB_ (by decide) dX9_valueOf_103 ?_
    refine zk_irem hX_ hB_ (by omega) (by omega) (by omega) (by omega) dX9_valueOf_105 ?_
    exact fin_i (wf := (fun _ : Unit => [])) () F rfl hP hD hK hS (by decide) (by decide) dX9_valueOf_106 (by refine congrArg iz ?_; unfold sgn; (try rw [t_1_0]); (try rw [t_1_1]); (try rw [t_1_2]); (try rw [t_1_3]); (try rw [t_1_4]); (try rw [t_1_5]); (try rw [t_1_6]); (try rw [t_1_7]); (try rw [t_1_8]); (try have t9 : k = 9 := (by omega)); (try rw [t9]); simp [*])
  by_cases t_1_7 : k = 7
  · skip
    refine zk_tableIn (tgt := 107) hX_ hB_ dX9_valueOf_1 (off := 106) (by omega) (by omega) (by omega) (by rw [t_1_7]; rfl) (by decide) ?_
    refine lv_iload_n hX_ hB_ dX9_valueOf_107 rfl (lv_at hl 0 rfl) ?_
    refine zk_sipush hX_ hB_ (by decide) dX9_valueOf_108 ?_
    refine zk_iadd hX_ hB_ dX9_valueOf_111 ?_
    refine zk_sipush hX_ hB_ (by decide) dX9_valueOf_112 ?_
    refine zk_irem hX_ hB_ (by omega) (by omega) (by omega) (by omega) dX9_valueOf_115 ?_
    refine zk_bipush hX_ hB_ (by decide) dX9_valueOf_116 ?_
    refine zk_irem hX_ hB_ (by omega) (by omega) (by omega) (by omega) dX9_valueOf_118 ?_
    exact fin_i (wf := (fun _ : Unit => [])) () F rfl hP hD hK hS (by decide) (by decide) dX9_valueOf_119 (by refine congrArg iz ?_; unfold sgn; (try rw [t_1_0]); (try rw [t_1_1]); (try rw [t_1_2]); (try rw [t_1_3]); (try rw [t_1_4]); (try rw [t_1_5]); (try rw [t_1_6]); (try rw [t_1_7]); (try rw [t_1_8]); (try have t9 : k = 9 := (by omega)); (try rw [t9]); simp [*])
  by_cases t_1_8 : k = 8
  · skip
    refine zk_tableIn (tgt := 120) hX_ hB_ dX9_valueOf_1 (off := 119) (by omega) (by omega) (by omega) (by rw [t_1_8]; rfl) (by decide) ?_
    refine lv_iload_n hX_ hB_ dX9_valueOf_120 rfl (lv_at hl 0 rfl) ?_
    refine zk_sipush hX_ hB_ (by decide) dX9_valueOf_121 ?_
    refine zk_iadd hX_ hB_ dX9_valueOf_124 ?_
    refine zk_sipush hX_ hB_ (by decide) dX9_valueOf_125 ?_
    refine zk_irem hX_ hB_ (by omega) (by omega) (by omega) (by omega) dX9_valueOf_128 ?_
    refine zk_bipush hX_ hB_ (by decide) dX9_valueOf_129 ?_
    refine zk_idiv hX_ hB_ (by omega) (by omega) (by omega) (by omega) dX9_valueOf_131 ?_
    exact fin_i (wf := (fun _ : Unit => [])) () F rfl hP hD hK hS (by decide) (by decide) dX9_valueOf_132 (by refine congrArg iz ?_; unfold sgn; (try rw [t_1_0]); (try rw [t_1_1]); (try rw [t_1_2]); (try rw [t_1_3]); (try rw [t_1_4]); (try rw [t_1_5]); (try rw [t_1_6]); (try rw [t_1_7]); (try rw [t_1_8]); (try have t9 : k = 9 := (by omega)); (try rw [t9]); simp [*])
  refine zk_tableOut (tgt := 133) hX_ hB_ dX9_valueOf_1 (by omega) (by omega) (by decide) ?_
  refine lv_iload_n hX_ hB_ dX9_valueOf_133 rfl (lv_at hl 0 rfl) ?_
  refine zk_bipush hX_ hB_ (by decide) dX9_valueOf_134 ?_
  refine zk_iadd hX_ hB_ dX9_valueOf_136 ?_
  refine zk_bipush hX_ hB_ (by decide) dX9_valueOf_137 ?_
  refine zk_irem hX_ hB_ (by omega) (by omega) (by omega) (by omega) dX9_valueOf_139 ?_
  refine zk_iconst hX_ hB_ dX9_valueOf_140 ?_
  refine zk_iadd hX_ hB_ dX9_valueOf_141 ?_
  exact fin_i (wf := (fun _ : Unit => [])) () F rfl hP hD hK hS (by decide) (by decide) dX9_valueOf_142 (by refine congrArg iz ?_; unfold sgn; (try rw [t_1_0]); (try rw [t_1_1]); (try rw [t_1_2]); (try rw [t_1_3]); (try rw [t_1_4]); (try rw [t_1_5]); (try rw [t_1_6]); (try rw [t_1_7]); (try rw [t_1_8]); (try have t9 : k = 9 := (by omega)); (try rw [t9]); simp [*])

theorem hw_X9_moonOf_7434aa : (.constantLong RX9 74 (149) : Cond) ∈ wsX9_moonOf := by decide +kernel
theorem hw_X9_moonOf_2cfb6b : (.constantLong RX9 76 (4400) : Cond) ∈ wsX9_moonOf := by decide +kernel
set_option maxHeartbeats 4000000 in
set_option maxRecDepth 100000 in
theorem c_X9_moonOf (l : Launch) (G : GG) (d : Int) (b : Int) (hd : 0 ≤ d ∧ d < 2000000) (hb0 : 0 ≤ b ∧ b < 4400) : Ci l yX9_moonOf wsX9_moonOf ({ frames := 0, cells := 0, slots := 0, locals := 0 }) G E0 [.int (iz d), .int (iz b)] [] 0 0 (fun _ : Unit => []) (fun (r : Int32) (_ : Unit) => r = (iz (sgn d 10 b))) := by
  refine Ci_intro (cc := cX9_moonOf) (maxL := 2) (ret := (some .int)) (by decide) rfl (Nat.le_of_ble_eq_true rfl) ?_
  intro p e s m below meth c A F hA hP hD hK hE ls hl
  have hX_ := F.1
  have hB_ := F.2.1
  have hts := F.2.2.2.2.2.1
  have hown := F.2.2.2.2.1
  have hml := F.2.2.2.1
  have hS : va_S A s.heap s.heap [] := va_S.rf
  have hl : lv_has ls 2 [(0, .int (iz d)), (1, .int (iz b))] := hl
  refine lv_iload_n hX_ hB_ dX9_moonOf_0 rfl (lv_at hl 0 rfl) ?_
  refine lv_iload_n hX_ hB_ dX9_moonOf_1 rfl (lv_at hl 1 rfl) ?_
  refine zk_iadd hX_ hB_ dX9_moonOf_2 ?_
  refine zk_i2l hX_ hB_ (by omega) dX9_moonOf_3 ?_
  refine lv_ldc2 hX_ hB_ hown (hts _ hw_X9_moonOf_7434aa) dX9_moonOf_4 ?_
  refine zk_topl (y := (lz 149)) rfl ?_
  refine zk_lmul hX_ hB_ dX9_moonOf_7 ?_
  refine lv_ldc2 hX_ hB_ hown (hts _ hw_X9_moonOf_2cfb6b) dX9_moonOf_8 ?_
  refine zk_topl (y := (lz 4400)) rfl ?_
  refine zk_lrem hX_ hB_ (by omega) (by omega) (by omega) (by omega) dX9_moonOf_11 ?_
  refine lv_l2i hX_ hB_ dX9_moonOf_12 rfl ?_
  refine zk_topi (y := (iz ((d + b) * 149 % 4400))) (l2i_z _) ?_
  refine zk_sipush hX_ hB_ (by decide) dX9_moonOf_13 ?_
  refine zk_idiv hX_ hB_ (by omega) (by omega) (by omega) (by omega) dX9_moonOf_16 ?_
  exact fin_i (wf := (fun _ : Unit => [])) () F rfl hP hD hK hS (by decide) (by decide) dX9_moonOf_17 rfl

theorem hw_X9_of_3af6b2 : (.fieldLink RX9 61 "StoneDatesModel" "thrown" "I" : Cond) ∈ wsX9_of := by decide +kernel
theorem hi_X9_of_X9 : ∀ w ∈ u_ws RX9 TX9 33, w ∈ wsX9_of := by decide +kernel
theorem mds_X9_isDay : yX9_isDay.cls ≠ "java/lang/invoke/MethodHandle" ∧ yX9_isDay.cls ≠ "java/lang/invoke/VarHandle" ∧ (parseMethodDescriptor yX9_isDay.desc).map (fun d => d.parameters.length) = some 1 := by decide +kernel
theorem mds_X9_valueOf : yX9_valueOf.cls ≠ "java/lang/invoke/MethodHandle" ∧ yX9_valueOf.cls ≠ "java/lang/invoke/VarHandle" ∧ (parseMethodDescriptor yX9_valueOf.desc).map (fun d => d.parameters.length) = some 2 := by decide +kernel
set_option maxHeartbeats 4000000 in
set_option maxRecDepth 100000 in
theorem c_X9_of (l : Launch) (G : GG) (mo : Nat) (th : Int) (bsA : Nat) (tw : Int) (tpA : Nat) (td : Int) (sz : Int) (at_ : Int) (iw : Bool) (loA : Nat) (hiA : Nat) (sl : Int64) (sh : Int64) (toA : Nat) (mnA : Nat) (dyA : Nat) (sn : Int) (frA : Nat) (t2A : Nat) (faA : Nat) (dn : Int) (iso : Bool) (akA : Nat) (am : Int) (wr : Int) (paA : Nat) (ofA : Nat) (seA : Nat) (ecA : Nat) (em : Int) (nmA : Nat) (bst : Int) (bmn : Int) (bsm : Int) (d : Int) (k : Int) (hd : R31 d) (hk : R31 k) : Ci l yX9_of wsX9_of ({ frames := 1, cells := 0, slots := 0, locals := 22 }) G E0 [.ref mo, .int (iz d), .int (iz k)] [(mo, .inr (7, .int (iz th) :: .ref bsA :: .int (iz tw) :: .ref tpA :: .int (iz td) :: .int (iz sz) :: .int (iz at_) :: .int (zb iw) :: .ref loA :: .ref hiA :: .long sl :: .long sh :: .ref toA :: .ref mnA :: .ref dyA :: .int (iz sn) :: .ref frA :: .ref t2A :: .ref faA :: .int (iz dn) :: .int (zb iso) :: .ref akA :: .int (iz am) :: .int (iz wr) :: .ref paA :: .ref ofA :: .ref seA :: .ref ecA :: .int (iz em) :: .ref nmA :: .int (iz bst) :: .int (iz bmn) :: .long (lz bsm) :: []))] 0 0 (fun th2 : Int => [(mo, .inr (7, .int (iz th2) :: .ref bsA :: .int (iz tw) :: .ref tpA :: .int (iz td) :: .int (iz sz) :: .int (iz at_) :: .int (zb iw) :: .ref loA :: .ref hiA :: .long sl :: .long sh :: .ref toA :: .ref mnA :: .ref dyA :: .int (iz sn) :: .ref frA :: .ref t2A :: .ref faA :: .int (iz dn) :: .int (zb iso) :: .ref akA :: .int (iz am) :: .int (iz wr) :: .ref paA :: .ref ofA :: .ref seA :: .ref ecA :: .int (iz em) :: .ref nmA :: .int (iz bst) :: .int (iz bmn) :: .long (lz bsm) :: []))]) (fun (r : Int32) (th2 : Int) => (¬ (isDay d = true ∧ 0 ≤ k ∧ k ≤ 9) → th2 = 1) ∧ ((isDay d = true ∧ 0 ≤ k ∧ k ≤ 9) → r = iz (sgn d k 0) ∧ th2 = 0)) := by
  refine Ci_intro (cc := cX9_of) (maxL := 3) (ret := (some .int)) (by decide) rfl (Nat.le_of_ble_eq_true rfl) ?_
  intro p e s m below meth c A F hA hP hD hK hE ls hl
  have hX_ := F.1
  have hB_ := F.2.1
  have hts := F.2.2.2.2.2.1
  have hown := F.2.2.2.2.1
  have hml := F.2.2.2.1
  have hS : va_S A s.heap s.heap [] := va_S.rf
  have hl : lv_has ls 3 [(0, .ref mo), (1, .int (iz d)), (2, .int (iz k))] := hl
  refine lv_aload_n hX_ hB_ dX9_of_0 rfl (lv_at hl 0 rfl) ?_
  refine zk_iconst hX_ hB_ dX9_of_1 ?_
  refine va_put (D := G.1) (ci := 7) (v := .int (iz 0)) (ty := .int) (C := RX9) (T := TX9) (N := 33) hX_ hB_ hts hi_X9_of_X9 tyX9 tyX9_ok nmX9 hown hK.1 hP hD hS 0 rfl rfl 0 (by decide) (hts _ hw_X9_of_3af6b2) (fun _ h9 => h9) rfl (by decide +kernel) rfl rfl (Nat.le_of_ble_eq_true rfl) dX9_of_2 (fun H locs hP hD hS => ?_)
  have hP : va_P G.1 vwCl [(mo, .inr (7, .int (iz 0) :: .ref bsA :: .int (iz tw) :: .ref tpA :: .int (iz td) :: .int (iz sz) :: .int (iz at_) :: .int (zb iw) :: .ref loA :: .ref hiA :: .long sl :: .long sh :: .ref toA :: .ref mnA :: .ref dyA :: .int (iz sn) :: .ref frA :: .ref t2A :: .ref faA :: .int (iz dn) :: .int (zb iso) :: .ref akA :: .int (iz am) :: .int (iz wr) :: .ref paA :: .ref ofA :: .ref seA :: .ref ecA :: .int (iz em) :: .ref nmA :: .int (iz bst) :: .int (iz bmn) :: .long (lz bsm) :: []))] _ := hP
  have hD : va_D A [(mo, .inr (7, .int (iz 0) :: .ref bsA :: .int (iz tw) :: .ref tpA :: .int (iz td) :: .int (iz sz) :: .int (iz at_) :: .int (zb iw) :: .ref loA :: .ref hiA :: .long sl :: .long sh :: .ref toA :: .ref mnA :: .ref dyA :: .int (iz sn) :: .ref frA :: .ref t2A :: .ref faA :: .int (iz dn) :: .int (zb iso) :: .ref akA :: .int (iz am) :: .int (iz wr) :: .ref paA :: .ref ofA :: .ref seA :: .ref ecA :: .int (iz em) :: .ref nmA :: .int (iz bst) :: .int (iz bmn) :: .long (lz bsm) :: []))] := hD
  refine lv_aload_n hX_ hB_ dX9_of_5 rfl (lv_at hl 0 rfl) ?_
  refine lv_iload_n hX_ hB_ dX9_of_6 rfl (lv_at hl 1 rfl) ?_
  refine back_i (wr := [(mo, .inr (7, .int (iz 0) :: .ref bsA :: .int (iz tw) :: .ref tpA :: .int (iz td) :: .int (iz sz) :: .int (iz at_) :: .int (zb iw) :: .ref loA :: .ref hiA :: .long sl :: .long sh :: .ref toA :: .ref mnA :: .ref dyA :: .int (iz sn) :: .ref frA :: .ref t2A :: .ref faA :: .int (iz dn) :: .int (zb iso) :: .ref akA :: .int (iz am) :: .int (iz wr) :: .ref paA :: .ref ofA :: .ref seA :: .ref ecA :: .int (iz em) :: .ref nmA :: .int (iz bst) :: .int (iz bmn) :: .long (lz bsm) :: []))]) (run_S (As := [.int (iz d)]) (rest := [.ref mo]) (wc := []) F (c_X9_isDay l G d (by omega) _) ext0 gX9_of_X9_isDay rfl rfl rfl mds_X9_isDay ⟨Nat.le_of_ble_eq_true rfl, Nat.le_of_ble_eq_true rfl⟩ (pre_of ext0 hK hP hD hS hA trivial [] (by decide) rfl _) rfl hl.1 (Nat.le_of_ble_eq_true rfl) dX9_of_7 ⟨by decide, by decide⟩) hP hD hS hA [] [0] rfl rfl (by decide) (by decide) (fun r__ u__ H locs hw hP hD hS => ?_)
  subst hw
  have hP := hP.sub (ws' := [(mo, .inr (7, .int (iz 0) :: .ref bsA :: .int (iz tw) :: .ref tpA :: .int (iz td) :: .int (iz sz) :: .int (iz at_) :: .int (zb iw) :: .ref loA :: .ref hiA :: .long sl :: .long sh :: .ref toA :: .ref mnA :: .ref dyA :: .int (iz sn) :: .ref frA :: .ref t2A :: .ref faA :: .int (iz dn) :: .int (zb iso) :: .ref akA :: .int (iz am) :: .int (iz wr) :: .ref paA :: .ref ofA :: .ref seA :: .ref ecA :: .int (iz em) :: .ref nmA :: .int (iz bst) :: .int (iz bmn) :: .long (lz bsm) :: []))]) [0] rfl
  have hD := hD.sub (ws' := [(mo, .inr (7, .int (iz 0) :: .ref bsA :: .int (iz tw) :: .ref tpA :: .int (iz td) :: .int (iz sz) :: .int (iz at_) :: .int (zb iw) :: .ref loA :: .ref hiA :: .long sl :: .long sh :: .ref toA :: .ref mnA :: .ref dyA :: .int (iz sn) :: .ref frA :: .ref t2A :: .ref faA :: .int (iz dn) :: .int (zb iso) :: .ref akA :: .int (iz am) :: .int (iz wr) :: .ref paA :: .ref ofA :: .ref seA :: .ref ecA :: .int (iz em) :: .ref nmA :: .int (iz bst) :: .int (iz bmn) :: .long (lz bsm) :: []))]) [0] (by decide) rfl
  refine zk_bif_eq (tgt := 23) hX_ hB_ dX9_of_10 (by decide) (fun c_10 => ?_) (fun c_10 => ?_)
  · skip
    refine zk_iconst hX_ hB_ dX9_of_23 ?_
    refine zk_topi (y := (zb true)) rfl ?_
    refine lv_goto (tgt := 28) hX_ hB_ dX9_of_24 (by decide) ?_
    refine zk_iconst hX_ hB_ dX9_of_28 ?_
    refine back_i (wr := []) (run_V (As := [.int (zb true), .int (iz 1)]) (rest := []) (wc := [(mo, .inr (7, .int (iz 0) :: .ref bsA :: .int (iz tw) :: .ref tpA :: .int (iz td) :: .int (iz sz) :: .int (iz at_) :: .int (zb iw) :: .ref loA :: .ref hiA :: .long sl :: .long sh :: .ref toA :: .ref mnA :: .ref dyA :: .int (iz sn) :: .ref frA :: .ref t2A :: .ref faA :: .int (iz dn) :: .int (zb iso) :: .ref akA :: .int (iz am) :: .int (iz wr) :: .ref paA :: .ref ofA :: .ref seA :: .ref ecA :: .int (iz em) :: .ref nmA :: .int (iz bst) :: .int (iz bmn) :: .long (lz bsm) :: []))]) F (c_X9_badT l G mo 0 bsA tw tpA td sz at_ iw loA hiA sl sh toA mnA dyA sn frA t2A faA dn iso akA am wr paA ofA seA ecA em nmA bst bmn bsm 1 _) ext0 gX9_of_X9_bad rfl rfl rfl mdv_X9_bad ⟨Nat.le_of_ble_eq_true rfl, Nat.le_of_ble_eq_true rfl⟩ (va_recv hK.1 (hP.sub (ws' := [(mo, .inr (7, .int (iz 0) :: .ref bsA :: .int (iz tw) :: .ref tpA :: .int (iz td) :: .int (iz sz) :: .int (iz at_) :: .int (zb iw) :: .ref loA :: .ref hiA :: .long sl :: .long sh :: .ref toA :: .ref mnA :: .ref dyA :: .int (iz sn) :: .ref frA :: .ref t2A :: .ref faA :: .int (iz dn) :: .int (zb iso) :: .ref akA :: .int (iz am) :: .int (iz wr) :: .ref paA :: .ref ofA :: .ref seA :: .ref ecA :: .int (iz em) :: .ref nmA :: .int (iz bst) :: .int (iz bmn) :: .long (lz bsm) :: []))]) [0] rfl) (ci := 7) (q0 := 0) rfl rfl) (pre_of ext0 hK hP hD hS hA trivial [0] (by decide) rfl _) rfl hl.1 (Nat.le_of_ble_eq_true rfl) dX9_of_29 ⟨by decide, by decide⟩) hP hD hS hA [0] [] rfl rfl (by decide) (by decide) (fun r__ u__ H locs hw hP hD hS => ?_)
    subst hw
    have hP := hP.sub (ws' := [(mo, .inr (7, .int (iz 1) :: .ref bsA :: .int (iz tw) :: .ref tpA :: .int (iz td) :: .int (iz sz) :: .int (iz at_) :: .int (zb iw) :: .ref loA :: .ref hiA :: .long sl :: .long sh :: .ref toA :: .ref mnA :: .ref dyA :: .int (iz sn) :: .ref frA :: .ref t2A :: .ref faA :: .int (iz dn) :: .int (zb iso) :: .ref akA :: .int (iz am) :: .int (iz wr) :: .ref paA :: .ref ofA :: .ref seA :: .ref ecA :: .int (iz em) :: .ref nmA :: .int (iz bst) :: .int (iz bmn) :: .long (lz bsm) :: []))]) [0] rfl
    have hD := hD.sub (ws' := [(mo, .inr (7, .int (iz 1) :: .ref bsA :: .int (iz tw) :: .ref tpA :: .int (iz td) :: .int (iz sz) :: .int (iz at_) :: .int (zb iw) :: .ref loA :: .ref hiA :: .long sl :: .long sh :: .ref toA :: .ref mnA :: .ref dyA :: .int (iz sn) :: .ref frA :: .ref t2A :: .ref faA :: .int (iz dn) :: .int (zb iso) :: .ref akA :: .int (iz am) :: .int (iz wr) :: .ref paA :: .ref ofA :: .ref seA :: .ref ecA :: .int (iz em) :: .ref nmA :: .int (iz bst) :: .int (iz bmn) :: .long (lz bsm) :: []))]) [0] (by decide) rfl
    refine zk_bif_eq (tgt := 39) hX_ hB_ dX9_of_32 (by decide) (fun c_32 => absurd c_32 (by decide)) (fun c_32 => ?_)
    refine zk_iconst hX_ hB_ dX9_of_35 ?_
    refine lv_goto (tgt := 44) hX_ hB_ dX9_of_36 (by decide) ?_
    exact fin_i (wf := (fun th2 : Int => [(mo, .inr (7, .int (iz th2) :: .ref bsA :: .int (iz tw) :: .ref tpA :: .int (iz td) :: .int (iz sz) :: .int (iz at_) :: .int (zb iw) :: .ref loA :: .ref hiA :: .long sl :: .long sh :: .ref toA :: .ref mnA :: .ref dyA :: .int (iz sn) :: .ref frA :: .ref t2A :: .ref faA :: .int (iz dn) :: .int (zb iso) :: .ref akA :: .int (iz am) :: .int (iz wr) :: .ref paA :: .ref ofA :: .ref seA :: .ref ecA :: .int (iz em) :: .ref nmA :: .int (iz bst) :: .int (iz bmn) :: .long (lz bsm) :: []))])) 1 F rfl hP hD hK hS (by decide) (by decide) dX9_of_44 (by exact ⟨fun _ => rfl, fun q => absurd (c_10.symm.trans q.1) (by decide)⟩)
  · skip
    refine lv_iload_n hX_ hB_ dX9_of_13 rfl (lv_at hl 2 rfl) ?_
    refine zk_if_lt (tgt := 23) hX_ hB_ (by omega) dX9_of_14 (by decide) (fun c_14 => ?_) (fun c_14 => ?_)
    · skip
      refine zk_iconst hX_ hB_ dX9_of_23 ?_
      refine zk_topi (y := (zb true)) rfl ?_
      refine lv_goto (tgt := 28) hX_ hB_ dX9_of_24 (by decide) ?_
      refine zk_iconst hX_ hB_ dX9_of_28 ?_
      refine back_i (wr := []) (run_V (As := [.int (zb true), .int (iz 1)]) (rest := []) (wc := [(mo, .inr (7, .int (iz 0) :: .ref bsA :: .int (iz tw) :: .ref tpA :: .int (iz td) :: .int (iz sz) :: .int (iz at_) :: .int (zb iw) :: .ref loA :: .ref hiA :: .long sl :: .long sh :: .ref toA :: .ref mnA :: .ref dyA :: .int (iz sn) :: .ref frA :: .ref t2A :: .ref faA :: .int (iz dn) :: .int (zb iso) :: .ref akA :: .int (iz am) :: .int (iz wr) :: .ref paA :: .ref ofA :: .ref seA :: .ref ecA :: .int (iz em) :: .ref nmA :: .int (iz bst) :: .int (iz bmn) :: .long (lz bsm) :: []))]) F (c_X9_badT l G mo 0 bsA tw tpA td sz at_ iw loA hiA sl sh toA mnA dyA sn frA t2A faA dn iso akA am wr paA ofA seA ecA em nmA bst bmn bsm 1 _) ext0 gX9_of_X9_bad rfl rfl rfl mdv_X9_bad ⟨Nat.le_of_ble_eq_true rfl, Nat.le_of_ble_eq_true rfl⟩ (va_recv hK.1 (hP.sub (ws' := [(mo, .inr (7, .int (iz 0) :: .ref bsA :: .int (iz tw) :: .ref tpA :: .int (iz td) :: .int (iz sz) :: .int (iz at_) :: .int (zb iw) :: .ref loA :: .ref hiA :: .long sl :: .long sh :: .ref toA :: .ref mnA :: .ref dyA :: .int (iz sn) :: .ref frA :: .ref t2A :: .ref faA :: .int (iz dn) :: .int (zb iso) :: .ref akA :: .int (iz am) :: .int (iz wr) :: .ref paA :: .ref ofA :: .ref seA :: .ref ecA :: .int (iz em) :: .ref nmA :: .int (iz bst) :: .int (iz bmn) :: .long (lz bsm) :: []))]) [0] rfl) (ci := 7) (q0 := 0) rfl rfl) (pre_of ext0 hK hP hD hS hA trivial [0] (by decide) rfl _) rfl hl.1 (Nat.le_of_ble_eq_true rfl) dX9_of_29 ⟨by decide, by decide⟩) hP hD hS hA [0] [] rfl rfl (by decide) (by decide) (fun r__ u__ H locs hw hP hD hS => ?_)
      subst hw
      have hP := hP.sub (ws' := [(mo, .inr (7, .int (iz 1) :: .ref bsA :: .int (iz tw) :: .ref tpA :: .int (iz td) :: .int (iz sz) :: .int (iz at_) :: .int (zb iw) :: .ref loA :: .ref hiA :: .long sl :: .long sh :: .ref toA :: .ref mnA :: .ref dyA :: .int (iz sn) :: .ref frA :: .ref t2A :: .ref faA :: .int (iz dn) :: .int (zb iso) :: .ref akA :: .int (iz am) :: .int (iz wr) :: .ref paA :: .ref ofA :: .ref seA :: .ref ecA :: .int (iz em) :: .ref nmA :: .int (iz bst) :: .int (iz bmn) :: .long (lz bsm) :: []))]) [0] rfl
      have hD := hD.sub (ws' := [(mo, .inr (7, .int (iz 1) :: .ref bsA :: .int (iz tw) :: .ref tpA :: .int (iz td) :: .int (iz sz) :: .int (iz at_) :: .int (zb iw) :: .ref loA :: .ref hiA :: .long sl :: .long sh :: .ref toA :: .ref mnA :: .ref dyA :: .int (iz sn) :: .ref frA :: .ref t2A :: .ref faA :: .int (iz dn) :: .int (zb iso) :: .ref akA :: .int (iz am) :: .int (iz wr) :: .ref paA :: .ref ofA :: .ref seA :: .ref ecA :: .int (iz em) :: .ref nmA :: .int (iz bst) :: .int (iz bmn) :: .long (lz bsm) :: []))]) [0] (by decide) rfl
      refine zk_bif_eq (tgt := 39) hX_ hB_ dX9_of_32 (by decide) (fun c_32 => absurd c_32 (by decide)) (fun c_32 => ?_)
      refine zk_iconst hX_ hB_ dX9_of_35 ?_
      refine lv_goto (tgt := 44) hX_ hB_ dX9_of_36 (by decide) ?_
      exact fin_i (wf := (fun th2 : Int => [(mo, .inr (7, .int (iz th2) :: .ref bsA :: .int (iz tw) :: .ref tpA :: .int (iz td) :: .int (iz sz) :: .int (iz at_) :: .int (zb iw) :: .ref loA :: .ref hiA :: .long sl :: .long sh :: .ref toA :: .ref mnA :: .ref dyA :: .int (iz sn) :: .ref frA :: .ref t2A :: .ref faA :: .int (iz dn) :: .int (zb iso) :: .ref akA :: .int (iz am) :: .int (iz wr) :: .ref paA :: .ref ofA :: .ref seA :: .ref ecA :: .int (iz em) :: .ref nmA :: .int (iz bst) :: .int (iz bmn) :: .long (lz bsm) :: []))])) 1 F rfl hP hD hK hS (by decide) (by decide) dX9_of_44 (by exact ⟨fun _ => rfl, fun q => absurd q (by omega)⟩)
    · skip
      refine lv_iload_n hX_ hB_ dX9_of_17 rfl (lv_at hl 2 rfl) ?_
      refine zk_bipush hX_ hB_ (by decide) dX9_of_18 ?_
      refine zk_icmp_le (tgt := 27) hX_ hB_ (by omega) (by omega) dX9_of_20 (by decide) (fun c_20 => ?_) (fun c_20 => ?_)
      · skip
        refine zk_iconst hX_ hB_ dX9_of_27 ?_
        refine zk_topi (y := (zb false)) rfl ?_
        refine zk_iconst hX_ hB_ dX9_of_28 ?_
        refine back_i (wr := []) (run_V (As := [.int (zb false), .int (iz 1)]) (rest := []) (wc := [(mo, .inr (7, .int (iz 0) :: .ref bsA :: .int (iz tw) :: .ref tpA :: .int (iz td) :: .int (iz sz) :: .int (iz at_) :: .int (zb iw) :: .ref loA :: .ref hiA :: .long sl :: .long sh :: .ref toA :: .ref mnA :: .ref dyA :: .int (iz sn) :: .ref frA :: .ref t2A :: .ref faA :: .int (iz dn) :: .int (zb iso) :: .ref akA :: .int (iz am) :: .int (iz wr) :: .ref paA :: .ref ofA :: .ref seA :: .ref ecA :: .int (iz em) :: .ref nmA :: .int (iz bst) :: .int (iz bmn) :: .long (lz bsm) :: []))]) F (c_X9_badF l G mo 0 bsA tw tpA td sz at_ iw loA hiA sl sh toA mnA dyA sn frA t2A faA dn iso akA am wr paA ofA seA ecA em nmA bst bmn bsm 1 _) ext0 gX9_of_X9_bad rfl rfl rfl mdv_X9_bad ⟨Nat.le_of_ble_eq_true rfl, Nat.le_of_ble_eq_true rfl⟩ (va_recv hK.1 (hP.sub (ws' := [(mo, .inr (7, .int (iz 0) :: .ref bsA :: .int (iz tw) :: .ref tpA :: .int (iz td) :: .int (iz sz) :: .int (iz at_) :: .int (zb iw) :: .ref loA :: .ref hiA :: .long sl :: .long sh :: .ref toA :: .ref mnA :: .ref dyA :: .int (iz sn) :: .ref frA :: .ref t2A :: .ref faA :: .int (iz dn) :: .int (zb iso) :: .ref akA :: .int (iz am) :: .int (iz wr) :: .ref paA :: .ref ofA :: .ref seA :: .ref ecA :: .int (iz em) :: .ref nmA :: .int (iz bst) :: .int (iz bmn) :: .long (lz bsm) :: []))]) [0] rfl) (ci := 7) (q0 := 0) rfl rfl) (pre_of ext0 hK hP hD hS hA trivial [0] (by decide) rfl _) rfl hl.1 (Nat.le_of_ble_eq_true rfl) dX9_of_29 ⟨by decide, by decide⟩) hP hD hS hA [0] [] rfl rfl (by decide) (by decide) (fun r__ u__ H locs hw hP hD hS => ?_)
        subst hw
        have hP := hP.sub (ws' := [(mo, .inr (7, .int (iz 0) :: .ref bsA :: .int (iz tw) :: .ref tpA :: .int (iz td) :: .int (iz sz) :: .int (iz at_) :: .int (zb iw) :: .ref loA :: .ref hiA :: .long sl :: .long sh :: .ref toA :: .ref mnA :: .ref dyA :: .int (iz sn) :: .ref frA :: .ref t2A :: .ref faA :: .int (iz dn) :: .int (zb iso) :: .ref akA :: .int (iz am) :: .int (iz wr) :: .ref paA :: .ref ofA :: .ref seA :: .ref ecA :: .int (iz em) :: .ref nmA :: .int (iz bst) :: .int (iz bmn) :: .long (lz bsm) :: []))]) [0] rfl
        have hD := hD.sub (ws' := [(mo, .inr (7, .int (iz 0) :: .ref bsA :: .int (iz tw) :: .ref tpA :: .int (iz td) :: .int (iz sz) :: .int (iz at_) :: .int (zb iw) :: .ref loA :: .ref hiA :: .long sl :: .long sh :: .ref toA :: .ref mnA :: .ref dyA :: .int (iz sn) :: .ref frA :: .ref t2A :: .ref faA :: .int (iz dn) :: .int (zb iso) :: .ref akA :: .int (iz am) :: .int (iz wr) :: .ref paA :: .ref ofA :: .ref seA :: .ref ecA :: .int (iz em) :: .ref nmA :: .int (iz bst) :: .int (iz bmn) :: .long (lz bsm) :: []))]) [0] (by decide) rfl
        refine zk_bif_eq (tgt := 39) hX_ hB_ dX9_of_32 (by decide) (fun c_32 => ?_) (fun c_32 => absurd c_32 (by decide))
        have hdd := of_decide_eq_true c_10
        refine lv_iload_n hX_ hB_ dX9_of_39 rfl (lv_at hl 1 rfl) ?_
        refine lv_iload_n hX_ hB_ dX9_of_40 rfl (lv_at hl 2 rfl) ?_
        refine back_i (wr := [(mo, .inr (7, .int (iz 0) :: .ref bsA :: .int (iz tw) :: .ref tpA :: .int (iz td) :: .int (iz sz) :: .int (iz at_) :: .int (zb iw) :: .ref loA :: .ref hiA :: .long sl :: .long sh :: .ref toA :: .ref mnA :: .ref dyA :: .int (iz sn) :: .ref frA :: .ref t2A :: .ref faA :: .int (iz dn) :: .int (zb iso) :: .ref akA :: .int (iz am) :: .int (iz wr) :: .ref paA :: .ref ofA :: .ref seA :: .ref ecA :: .int (iz em) :: .ref nmA :: .int (iz bst) :: .int (iz bmn) :: .long (lz bsm) :: []))]) (run_S (As := [.int (iz d), .int (iz k)]) (rest := []) (wc := []) F (c_X9_valueOf l G d k 0 (by omega) (by omega) _) ext0 gX9_of_X9_valueOf rfl rfl rfl mds_X9_valueOf ⟨Nat.le_of_ble_eq_true rfl, Nat.le_of_ble_eq_true rfl⟩ (pre_of ext0 hK hP hD hS hA trivial [] (by decide) rfl _) rfl hl.1 (Nat.le_of_ble_eq_true rfl) dX9_of_41 ⟨by decide, by decide⟩) hP hD hS hA [] [0] rfl rfl (by decide) (by decide) (fun r__ u__ H locs hw hP hD hS => ?_)
        subst hw
        have hP := hP.sub (ws' := [(mo, .inr (7, .int (iz 0) :: .ref bsA :: .int (iz tw) :: .ref tpA :: .int (iz td) :: .int (iz sz) :: .int (iz at_) :: .int (zb iw) :: .ref loA :: .ref hiA :: .long sl :: .long sh :: .ref toA :: .ref mnA :: .ref dyA :: .int (iz sn) :: .ref frA :: .ref t2A :: .ref faA :: .int (iz dn) :: .int (zb iso) :: .ref akA :: .int (iz am) :: .int (iz wr) :: .ref paA :: .ref ofA :: .ref seA :: .ref ecA :: .int (iz em) :: .ref nmA :: .int (iz bst) :: .int (iz bmn) :: .long (lz bsm) :: []))]) [0] rfl
        have hD := hD.sub (ws' := [(mo, .inr (7, .int (iz 0) :: .ref bsA :: .int (iz tw) :: .ref tpA :: .int (iz td) :: .int (iz sz) :: .int (iz at_) :: .int (zb iw) :: .ref loA :: .ref hiA :: .long sl :: .long sh :: .ref toA :: .ref mnA :: .ref dyA :: .int (iz sn) :: .ref frA :: .ref t2A :: .ref faA :: .int (iz dn) :: .int (zb iso) :: .ref akA :: .int (iz am) :: .int (iz wr) :: .ref paA :: .ref ofA :: .ref seA :: .ref ecA :: .int (iz em) :: .ref nmA :: .int (iz bst) :: .int (iz bmn) :: .long (lz bsm) :: []))]) [0] (by decide) rfl
        exact fin_i (wf := (fun th2 : Int => [(mo, .inr (7, .int (iz th2) :: .ref bsA :: .int (iz tw) :: .ref tpA :: .int (iz td) :: .int (iz sz) :: .int (iz at_) :: .int (zb iw) :: .ref loA :: .ref hiA :: .long sl :: .long sh :: .ref toA :: .ref mnA :: .ref dyA :: .int (iz sn) :: .ref frA :: .ref t2A :: .ref faA :: .int (iz dn) :: .int (zb iso) :: .ref akA :: .int (iz am) :: .int (iz wr) :: .ref paA :: .ref ofA :: .ref seA :: .ref ecA :: .int (iz em) :: .ref nmA :: .int (iz bst) :: .int (iz bmn) :: .long (lz bsm) :: []))])) 0 F rfl hP hD hK hS (by decide) (by decide) dX9_of_44 (by exact ⟨fun q => absurd ⟨c_10, by omega, by omega⟩ q, fun _ => ⟨rfl, rfl⟩⟩)
      · skip
        refine zk_iconst hX_ hB_ dX9_of_23 ?_
        refine zk_topi (y := (zb true)) rfl ?_
        refine lv_goto (tgt := 28) hX_ hB_ dX9_of_24 (by decide) ?_
        refine zk_iconst hX_ hB_ dX9_of_28 ?_
        refine back_i (wr := []) (run_V (As := [.int (zb true), .int (iz 1)]) (rest := []) (wc := [(mo, .inr (7, .int (iz 0) :: .ref bsA :: .int (iz tw) :: .ref tpA :: .int (iz td) :: .int (iz sz) :: .int (iz at_) :: .int (zb iw) :: .ref loA :: .ref hiA :: .long sl :: .long sh :: .ref toA :: .ref mnA :: .ref dyA :: .int (iz sn) :: .ref frA :: .ref t2A :: .ref faA :: .int (iz dn) :: .int (zb iso) :: .ref akA :: .int (iz am) :: .int (iz wr) :: .ref paA :: .ref ofA :: .ref seA :: .ref ecA :: .int (iz em) :: .ref nmA :: .int (iz bst) :: .int (iz bmn) :: .long (lz bsm) :: []))]) F (c_X9_badT l G mo 0 bsA tw tpA td sz at_ iw loA hiA sl sh toA mnA dyA sn frA t2A faA dn iso akA am wr paA ofA seA ecA em nmA bst bmn bsm 1 _) ext0 gX9_of_X9_bad rfl rfl rfl mdv_X9_bad ⟨Nat.le_of_ble_eq_true rfl, Nat.le_of_ble_eq_true rfl⟩ (va_recv hK.1 (hP.sub (ws' := [(mo, .inr (7, .int (iz 0) :: .ref bsA :: .int (iz tw) :: .ref tpA :: .int (iz td) :: .int (iz sz) :: .int (iz at_) :: .int (zb iw) :: .ref loA :: .ref hiA :: .long sl :: .long sh :: .ref toA :: .ref mnA :: .ref dyA :: .int (iz sn) :: .ref frA :: .ref t2A :: .ref faA :: .int (iz dn) :: .int (zb iso) :: .ref akA :: .int (iz am) :: .int (iz wr) :: .ref paA :: .ref ofA :: .ref seA :: .ref ecA :: .int (iz em) :: .ref nmA :: .int (iz bst) :: .int (iz bmn) :: .long (lz bsm) :: []))]) [0] rfl) (ci := 7) (q0 := 0) rfl rfl) (pre_of ext0 hK hP hD hS hA trivial [0] (by decide) rfl _) rfl hl.1 (Nat.le_of_ble_eq_true rfl) dX9_of_29 ⟨by decide, by decide⟩) hP hD hS hA [0] [] rfl rfl (by decide) (by decide) (fun r__ u__ H locs hw hP hD hS => ?_)
        subst hw
        have hP := hP.sub (ws' := [(mo, .inr (7, .int (iz 1) :: .ref bsA :: .int (iz tw) :: .ref tpA :: .int (iz td) :: .int (iz sz) :: .int (iz at_) :: .int (zb iw) :: .ref loA :: .ref hiA :: .long sl :: .long sh :: .ref toA :: .ref mnA :: .ref dyA :: .int (iz sn) :: .ref frA :: .ref t2A :: .ref faA :: .int (iz dn) :: .int (zb iso) :: .ref akA :: .int (iz am) :: .int (iz wr) :: .ref paA :: .ref ofA :: .ref seA :: .ref ecA :: .int (iz em) :: .ref nmA :: .int (iz bst) :: .int (iz bmn) :: .long (lz bsm) :: []))]) [0] rfl
        have hD := hD.sub (ws' := [(mo, .inr (7, .int (iz 1) :: .ref bsA :: .int (iz tw) :: .ref tpA :: .int (iz td) :: .int (iz sz) :: .int (iz at_) :: .int (zb iw) :: .ref loA :: .ref hiA :: .long sl :: .long sh :: .ref toA :: .ref mnA :: .ref dyA :: .int (iz sn) :: .ref frA :: .ref t2A :: .ref faA :: .int (iz dn) :: .int (zb iso) :: .ref akA :: .int (iz am) :: .int (iz wr) :: .ref paA :: .ref ofA :: .ref seA :: .ref ecA :: .int (iz em) :: .ref nmA :: .int (iz bst) :: .int (iz bmn) :: .long (lz bsm) :: []))]) [0] (by decide) rfl
        refine zk_bif_eq (tgt := 39) hX_ hB_ dX9_of_32 (by decide) (fun c_32 => absurd c_32 (by decide)) (fun c_32 => ?_)
        refine zk_iconst hX_ hB_ dX9_of_35 ?_
        refine lv_goto (tgt := 44) hX_ hB_ dX9_of_36 (by decide) ?_
        exact fin_i (wf := (fun th2 : Int => [(mo, .inr (7, .int (iz th2) :: .ref bsA :: .int (iz tw) :: .ref tpA :: .int (iz td) :: .int (iz sz) :: .int (iz at_) :: .int (zb iw) :: .ref loA :: .ref hiA :: .long sl :: .long sh :: .ref toA :: .ref mnA :: .ref dyA :: .int (iz sn) :: .ref frA :: .ref t2A :: .ref faA :: .int (iz dn) :: .int (zb iso) :: .ref akA :: .int (iz am) :: .int (iz wr) :: .ref paA :: .ref ofA :: .ref seA :: .ref ecA :: .int (iz em) :: .ref nmA :: .int (iz bst) :: .int (iz bmn) :: .long (lz bsm) :: []))])) 1 F rfl hP hD hK hS (by decide) (by decide) dX9_of_44 (by exact ⟨fun _ => rfl, fun q => absurd q (by omega)⟩)

theorem hw_X9_moon_3af6b2 : (.fieldLink RX9 61 "StoneDatesModel" "thrown" "I" : Cond) ∈ wsX9_moon := by decide +kernel
theorem hi_X9_moon_X9 : ∀ w ∈ u_ws RX9 TX9 33, w ∈ wsX9_moon := by decide +kernel
theorem hw_X9_moon_5201a2 : (.fieldLink RX9 69 "StoneDatesModel" "towns" "I" : Cond) ∈ wsX9_moon := by decide +kernel
theorem hw_X9_moon_2e1a2b : (.fieldLink RX9 9 "StoneDatesModel" "bases" "[I" : Cond) ∈ wsX9_moon := by decide +kernel
theorem mds_X9_moonOf : yX9_moonOf.cls ≠ "java/lang/invoke/MethodHandle" ∧ yX9_moonOf.cls ≠ "java/lang/invoke/VarHandle" ∧ (parseMethodDescriptor yX9_moonOf.desc).map (fun d => d.parameters.length) = some 2 := by decide +kernel
set_option maxHeartbeats 4000000 in
set_option maxRecDepth 100000 in
theorem c_X9_moon (l : Launch) (G : GG) (mo : Nat) (th : Int) (bsA : Nat) (tw : Int) (tpA : Nat) (td : Int) (sz : Int) (at_ : Int) (iw : Bool) (loA : Nat) (hiA : Nat) (sl : Int64) (sh : Int64) (toA : Nat) (mnA : Nat) (dyA : Nat) (sn : Int) (frA : Nat) (t2A : Nat) (faA : Nat) (dn : Int) (iso : Bool) (akA : Nat) (am : Int) (wr : Int) (paA : Nat) (ofA : Nat) (seA : Nat) (ecA : Nat) (em : Int) (nmA : Nat) (bst : Int) (bmn : Int) (bsm : Int) (bs : Int → Int) (d : Int) (k : Int) (hd : R31 d) (hk : R31 k) (ht : 0 ≤ tw ∧ tw ≤ 10) (hbs : ∀ i : Int, 0 ≤ i → i < tw → 0 ≤ bs i ∧ bs i < 4400) : Ci l yX9_moon wsX9_moon ({ frames := 1, cells := 0, slots := 0, locals := 22 }) G E0 [.ref mo, .int (iz d), .int (iz k)] [(mo, .inr (7, .int (iz th) :: .ref bsA :: .int (iz tw) :: .ref tpA :: .int (iz td) :: .int (iz sz) :: .int (iz at_) :: .int (zb iw) :: .ref loA :: .ref hiA :: .long sl :: .long sh :: .ref toA :: .ref mnA :: .ref dyA :: .int (iz sn) :: .ref frA :: .ref t2A :: .ref faA :: .int (iz dn) :: .int (zb iso) :: .ref akA :: .int (iz am) :: .int (iz wr) :: .ref paA :: .ref ofA :: .ref seA :: .ref ecA :: .int (iz em) :: .ref nmA :: .int (iz bst) :: .int (iz bmn) :: .long (lz bsm) :: [])), (bsA, .inl (G.2 0, 10, .inl (av bs)))] 0 0 (fun th2 : Int => [(mo, .inr (7, .int (iz th2) :: .ref bsA :: .int (iz tw) :: .ref tpA :: .int (iz td) :: .int (iz sz) :: .int (iz at_) :: .int (zb iw) :: .ref loA :: .ref hiA :: .long sl :: .long sh :: .ref toA :: .ref mnA :: .ref dyA :: .int (iz sn) :: .ref frA :: .ref t2A :: .ref faA :: .int (iz dn) :: .int (zb iso) :: .ref akA :: .int (iz am) :: .int (iz wr) :: .ref paA :: .ref ofA :: .ref seA :: .ref ecA :: .int (iz em) :: .ref nmA :: .int (iz bst) :: .int (iz bmn) :: .long (lz bsm) :: [])), (bsA, .inl (G.2 0, 10, .inl (av bs)))]) (fun (r : Int32) (th2 : Int) => (isDay d = false → th2 = 1) ∧ (isDay d = true → ¬ (0 ≤ k ∧ k < tw) → th2 = 2) ∧ (isDay d = true → (0 ≤ k ∧ k < tw) → r = iz (sgn d 10 (bs k)) ∧ th2 = 0)) := by
  refine Ci_intro (cc := cX9_moon) (maxL := 3) (ret := (some .int)) (by decide) rfl (Nat.le_of_ble_eq_true rfl) ?_
  intro p e s m below meth c A F hA hP hD hK hE ls hl
  have hX_ := F.1
  have hB_ := F.2.1
  have hts := F.2.2.2.2.2.1
  have hown := F.2.2.2.2.1
  have hml := F.2.2.2.1
  have hS : va_S A s.heap s.heap [] := va_S.rf
  have hl : lv_has ls 3 [(0, .ref mo), (1, .int (iz d)), (2, .int (iz k))] := hl
  refine lv_aload_n hX_ hB_ dX9_moon_0 rfl (lv_at hl 0 rfl) ?_
  refine zk_iconst hX_ hB_ dX9_moon_1 ?_
  refine va_put (D := G.1) (ci := 7) (v := .int (iz 0)) (ty := .int) (C := RX9) (T := TX9) (N := 33) hX_ hB_ hts hi_X9_moon_X9 tyX9 tyX9_ok nmX9 hown hK.1 hP hD hS 0 rfl rfl 0 (by decide) (hts _ hw_X9_moon_3af6b2) (fun _ h9 => h9) rfl (by decide +kernel) rfl rfl (Nat.le_of_ble_eq_true rfl) dX9_moon_2 (fun H locs hP hD hS => ?_)
  have hP : va_P G.1 vwCl [(mo, .inr (7, .int (iz 0) :: .ref bsA :: .int (iz tw) :: .ref tpA :: .int (iz td) :: .int (iz sz) :: .int (iz at_) :: .int (zb iw) :: .ref loA :: .ref hiA :: .long sl :: .long sh :: .ref toA :: .ref mnA :: .ref dyA :: .int (iz sn) :: .ref frA :: .ref t2A :: .ref faA :: .int (iz dn) :: .int (zb iso) :: .ref akA :: .int (iz am) :: .int (iz wr) :: .ref paA :: .ref ofA :: .ref seA :: .ref ecA :: .int (iz em) :: .ref nmA :: .int (iz bst) :: .int (iz bmn) :: .long (lz bsm) :: [])), (bsA, .inl (G.2 0, 10, .inl (av bs)))] _ := hP
  have hD : va_D A [(mo, .inr (7, .int (iz 0) :: .ref bsA :: .int (iz tw) :: .ref tpA :: .int (iz td) :: .int (iz sz) :: .int (iz at_) :: .int (zb iw) :: .ref loA :: .ref hiA :: .long sl :: .long sh :: .ref toA :: .ref mnA :: .ref dyA :: .int (iz sn) :: .ref frA :: .ref t2A :: .ref faA :: .int (iz dn) :: .int (zb iso) :: .ref akA :: .int (iz am) :: .int (iz wr) :: .ref paA :: .ref ofA :: .ref seA :: .ref ecA :: .int (iz em) :: .ref nmA :: .int (iz bst) :: .int (iz bmn) :: .long (lz bsm) :: [])), (bsA, .inl (G.2 0, 10, .inl (av bs)))] := hD
  refine lv_aload_n hX_ hB_ dX9_moon_5 rfl (lv_at hl 0 rfl) ?_
  refine lv_iload_n hX_ hB_ dX9_moon_6 rfl (lv_at hl 1 rfl) ?_
  refine back_i (wr := [(mo, .inr (7, .int (iz 0) :: .ref bsA :: .int (iz tw) :: .ref tpA :: .int (iz td) :: .int (iz sz) :: .int (iz at_) :: .int (zb iw) :: .ref loA :: .ref hiA :: .long sl :: .long sh :: .ref toA :: .ref mnA :: .ref dyA :: .int (iz sn) :: .ref frA :: .ref t2A :: .ref faA :: .int (iz dn) :: .int (zb iso) :: .ref akA :: .int (iz am) :: .int (iz wr) :: .ref paA :: .ref ofA :: .ref seA :: .ref ecA :: .int (iz em) :: .ref nmA :: .int (iz bst) :: .int (iz bmn) :: .long (lz bsm) :: [])), (bsA, .inl (G.2 0, 10, .inl (av bs)))]) (run_S (As := [.int (iz d)]) (rest := [.ref mo]) (wc := []) F (c_X9_isDay l G d (by omega) _) ext0 gX9_moon_X9_isDay rfl rfl rfl mds_X9_isDay ⟨Nat.le_of_ble_eq_true rfl, Nat.le_of_ble_eq_true rfl⟩ (pre_of ext0 hK hP hD hS hA trivial [] (by decide) rfl _) rfl hl.1 (Nat.le_of_ble_eq_true rfl) dX9_moon_7 ⟨by decide, by decide⟩) hP hD hS hA [] [0, 1] rfl rfl (by decide) (by decide) (fun r__ u__ H locs hw hP hD hS => ?_)
  subst hw
  have hP := hP.sub (ws' := [(mo, .inr (7, .int (iz 0) :: .ref bsA :: .int (iz tw) :: .ref tpA :: .int (iz td) :: .int (iz sz) :: .int (iz at_) :: .int (zb iw) :: .ref loA :: .ref hiA :: .long sl :: .long sh :: .ref toA :: .ref mnA :: .ref dyA :: .int (iz sn) :: .ref frA :: .ref t2A :: .ref faA :: .int (iz dn) :: .int (zb iso) :: .ref akA :: .int (iz am) :: .int (iz wr) :: .ref paA :: .ref ofA :: .ref seA :: .ref ecA :: .int (iz em) :: .ref nmA :: .int (iz bst) :: .int (iz bmn) :: .long (lz bsm) :: [])), (bsA, .inl (G.2 0, 10, .inl (av bs)))]) [0, 1] rfl
  have hD := hD.sub (ws' := [(mo, .inr (7, .int (iz 0) :: .ref bsA :: .int (iz tw) :: .ref tpA :: .int (iz td) :: .int (iz sz) :: .int (iz at_) :: .int (zb iw) :: .ref loA :: .ref hiA :: .long sl :: .long sh :: .ref toA :: .ref mnA :: .ref dyA :: .int (iz sn) :: .ref frA :: .ref t2A :: .ref faA :: .int (iz dn) :: .int (zb iso) :: .ref akA :: .int (iz am) :: .int (iz wr) :: .ref paA :: .ref ofA :: .ref seA :: .ref ecA :: .int (iz em) :: .ref nmA :: .int (iz bst) :: .int (iz bmn) :: .long (lz bsm) :: [])), (bsA, .inl (G.2 0, 10, .inl (av bs)))]) [0, 1] (by decide) rfl
  refine zk_bif_ne (tgt := 17) hX_ hB_ dX9_moon_10 (by decide) (fun c_10 => ?_) (fun c_10 => ?_)
  · skip
    refine zk_iconst hX_ hB_ dX9_moon_17 ?_
    refine zk_topi (y := (zb false)) rfl ?_
    refine zk_iconst hX_ hB_ dX9_moon_18 ?_
    refine back_i (wr := [(bsA, .inl (G.2 0, 10, .inl (av bs)))]) (run_V (As := [.int (zb false), .int (iz 1)]) (rest := []) (wc := [(mo, .inr (7, .int (iz 0) :: .ref bsA :: .int (iz tw) :: .ref tpA :: .int (iz td) :: .int (iz sz) :: .int (iz at_) :: .int (zb iw) :: .ref loA :: .ref hiA :: .long sl :: .long sh :: .ref toA :: .ref mnA :: .ref dyA :: .int (iz sn) :: .ref frA :: .ref t2A :: .ref faA :: .int (iz dn) :: .int (zb iso) :: .ref akA :: .int (iz am) :: .int (iz wr) :: .ref paA :: .ref ofA :: .ref seA :: .ref ecA :: .int (iz em) :: .ref nmA :: .int (iz bst) :: .int (iz bmn) :: .long (lz bsm) :: []))]) F (c_X9_badF l G mo 0 bsA tw tpA td sz at_ iw loA hiA sl sh toA mnA dyA sn frA t2A faA dn iso akA am wr paA ofA seA ecA em nmA bst bmn bsm 1 _) ext0 gX9_moon_X9_bad rfl rfl rfl mdv_X9_bad ⟨Nat.le_of_ble_eq_true rfl, Nat.le_of_ble_eq_true rfl⟩ (va_recv hK.1 (hP.sub (ws' := [(mo, .inr (7, .int (iz 0) :: .ref bsA :: .int (iz tw) :: .ref tpA :: .int (iz td) :: .int (iz sz) :: .int (iz at_) :: .int (zb iw) :: .ref loA :: .ref hiA :: .long sl :: .long sh :: .ref toA :: .ref mnA :: .ref dyA :: .int (iz sn) :: .ref frA :: .ref t2A :: .ref faA :: .int (iz dn) :: .int (zb iso) :: .ref akA :: .int (iz am) :: .int (iz wr) :: .ref paA :: .ref ofA :: .ref seA :: .ref ecA :: .int (iz em) :: .ref nmA :: .int (iz bst) :: .int (iz bmn) :: .long (lz bsm) :: []))]) [0] rfl) (ci := 7) (q0 := 0) rfl rfl) (pre_of ext0 hK hP hD hS hA trivial [0] (by decide) rfl _) rfl hl.1 (Nat.le_of_ble_eq_true rfl) dX9_moon_19 ⟨by decide, by decide⟩) hP hD hS hA [0] [1] rfl rfl (by decide) (by decide) (fun r__ u__ H locs hw hP hD hS => ?_)
    subst hw
    have hP := hP.sub (ws' := [(mo, .inr (7, .int (iz 0) :: .ref bsA :: .int (iz tw) :: .ref tpA :: .int (iz td) :: .int (iz sz) :: .int (iz at_) :: .int (zb iw) :: .ref loA :: .ref hiA :: .long sl :: .long sh :: .ref toA :: .ref mnA :: .ref dyA :: .int (iz sn) :: .ref frA :: .ref t2A :: .ref faA :: .int (iz dn) :: .int (zb iso) :: .ref akA :: .int (iz am) :: .int (iz wr) :: .ref paA :: .ref ofA :: .ref seA :: .ref ecA :: .int (iz em) :: .ref nmA :: .int (iz bst) :: .int (iz bmn) :: .long (lz bsm) :: [])), (bsA, .inl (G.2 0, 10, .inl (av bs)))]) [1, 0] rfl
    have hD := hD.sub (ws' := [(mo, .inr (7, .int (iz 0) :: .ref bsA :: .int (iz tw) :: .ref tpA :: .int (iz td) :: .int (iz sz) :: .int (iz at_) :: .int (zb iw) :: .ref loA :: .ref hiA :: .long sl :: .long sh :: .ref toA :: .ref mnA :: .ref dyA :: .int (iz sn) :: .ref frA :: .ref t2A :: .ref faA :: .int (iz dn) :: .int (zb iso) :: .ref akA :: .int (iz am) :: .int (iz wr) :: .ref paA :: .ref ofA :: .ref seA :: .ref ecA :: .int (iz em) :: .ref nmA :: .int (iz bst) :: .int (iz bmn) :: .long (lz bsm) :: [])), (bsA, .inl (G.2 0, 10, .inl (av bs)))]) [1, 0] (by decide) rfl
    refine zk_bif_ne (tgt := 50) hX_ hB_ dX9_moon_22 (by decide) (fun c_22 => absurd c_22 (by decide)) (fun c_22 => ?_)
    refine lv_aload_n hX_ hB_ dX9_moon_25 rfl (lv_at hl 0 rfl) ?_
    refine lv_iload_n hX_ hB_ dX9_moon_26 rfl (lv_at hl 2 rfl) ?_
    refine zk_if_lt (tgt := 38) hX_ hB_ (by omega) dX9_moon_27 (by decide) (fun c_27 => ?_) (fun c_27 => ?_)
    · skip
      refine zk_iconst hX_ hB_ dX9_moon_38 ?_
      refine zk_topi (y := (zb true)) rfl ?_
      refine lv_goto (tgt := 43) hX_ hB_ dX9_moon_39 (by decide) ?_
      refine zk_iconst hX_ hB_ dX9_moon_43 ?_
      refine back_i (wr := [(bsA, .inl (G.2 0, 10, .inl (av bs)))]) (run_V (As := [.int (zb true), .int (iz 2)]) (rest := []) (wc := [(mo, .inr (7, .int (iz 0) :: .ref bsA :: .int (iz tw) :: .ref tpA :: .int (iz td) :: .int (iz sz) :: .int (iz at_) :: .int (zb iw) :: .ref loA :: .ref hiA :: .long sl :: .long sh :: .ref toA :: .ref mnA :: .ref dyA :: .int (iz sn) :: .ref frA :: .ref t2A :: .ref faA :: .int (iz dn) :: .int (zb iso) :: .ref akA :: .int (iz am) :: .int (iz wr) :: .ref paA :: .ref ofA :: .ref seA :: .ref ecA :: .int (iz em) :: .ref nmA :: .int (iz bst) :: .int (iz bmn) :: .long (lz bsm) :: []))]) F (c_X9_badT l G mo 0 bsA tw tpA td sz at_ iw loA hiA sl sh toA mnA dyA sn frA t2A faA dn iso akA am wr paA ofA seA ecA em nmA bst bmn bsm 2 _) ext0 gX9_moon_X9_bad rfl rfl rfl mdv_X9_bad ⟨Nat.le_of_ble_eq_true rfl, Nat.le_of_ble_eq_true rfl⟩ (va_recv hK.1 (hP.sub (ws' := [(mo, .inr (7, .int (iz 0) :: .ref bsA :: .int (iz tw) :: .ref tpA :: .int (iz td) :: .int (iz sz) :: .int (iz at_) :: .int (zb iw) :: .ref loA :: .ref hiA :: .long sl :: .long sh :: .ref toA :: .ref mnA :: .ref dyA :: .int (iz sn) :: .ref frA :: .ref t2A :: .ref faA :: .int (iz dn) :: .int (zb iso) :: .ref akA :: .int (iz am) :: .int (iz wr) :: .ref paA :: .ref ofA :: .ref seA :: .ref ecA :: .int (iz em) :: .ref nmA :: .int (iz bst) :: .int (iz bmn) :: .long (lz bsm) :: []))]) [0] rfl) (ci := 7) (q0 := 0) rfl rfl) (pre_of ext0 hK hP hD hS hA trivial [0] (by decide) rfl _) rfl hl.1 (Nat.le_of_ble_eq_true rfl) dX9_moon_44 ⟨by decide, by decide⟩) hP hD hS hA [0] [1] rfl rfl (by decide) (by decide) (fun r__ u__ H locs hw hP hD hS => ?_)
      subst hw
      have hP := hP.sub (ws' := [(mo, .inr (7, .int (iz 2) :: .ref bsA :: .int (iz tw) :: .ref tpA :: .int (iz td) :: .int (iz sz) :: .int (iz at_) :: .int (zb iw) :: .ref loA :: .ref hiA :: .long sl :: .long sh :: .ref toA :: .ref mnA :: .ref dyA :: .int (iz sn) :: .ref frA :: .ref t2A :: .ref faA :: .int (iz dn) :: .int (zb iso) :: .ref akA :: .int (iz am) :: .int (iz wr) :: .ref paA :: .ref ofA :: .ref seA :: .ref ecA :: .int (iz em) :: .ref nmA :: .int (iz bst) :: .int (iz bmn) :: .long (lz bsm) :: [])), (bsA, .inl (G.2 0, 10, .inl (av bs)))]) [1, 0] rfl
      have hD := hD.sub (ws' := [(mo, .inr (7, .int (iz 2) :: .ref bsA :: .int (iz tw) :: .ref tpA :: .int (iz td) :: .int (iz sz) :: .int (iz at_) :: .int (zb iw) :: .ref loA :: .ref hiA :: .long sl :: .long sh :: .ref toA :: .ref mnA :: .ref dyA :: .int (iz sn) :: .ref frA :: .ref t2A :: .ref faA :: .int (iz dn) :: .int (zb iso) :: .ref akA :: .int (iz am) :: .int (iz wr) :: .ref paA :: .ref ofA :: .ref seA :: .ref ecA :: .int (iz em) :: .ref nmA :: .int (iz bst) :: .int (iz bmn) :: .long (lz bsm) :: [])), (bsA, .inl (G.2 0, 10, .inl (av bs)))]) [1, 0] (by decide) rfl
      refine zk_bif_eq (tgt := 52) hX_ hB_ dX9_moon_47 (by decide) (fun c_47 => absurd c_47 (by decide)) (fun c_47 => ?_)
      refine zk_iconst hX_ hB_ dX9_moon_50 ?_
      exact fin_i (wf := (fun th2 : Int => [(mo, .inr (7, .int (iz th2) :: .ref bsA :: .int (iz tw) :: .ref tpA :: .int (iz td) :: .int (iz sz) :: .int (iz at_) :: .int (zb iw) :: .ref loA :: .ref hiA :: .long sl :: .long sh :: .ref toA :: .ref mnA :: .ref dyA :: .int (iz sn) :: .ref frA :: .ref t2A :: .ref faA :: .int (iz dn) :: .int (zb iso) :: .ref akA :: .int (iz am) :: .int (iz wr) :: .ref paA :: .ref ofA :: .ref seA :: .ref ecA :: .int (iz em) :: .ref nmA :: .int (iz bst) :: .int (iz bmn) :: .long (lz bsm) :: [])), (bsA, .inl (G.2 0, 10, .inl (av bs)))])) 2 F rfl hP hD hK hS (by decide) (by decide) dX9_moon_51 (by exact ⟨fun q => absurd (c_10.symm.trans q) (by decide), fun _ _ => rfl, fun _ q => absurd q (by omega)⟩)
    · skip
      refine lv_iload_n hX_ hB_ dX9_moon_30 rfl (lv_at hl 2 rfl) ?_
      refine lv_aload_n hX_ hB_ dX9_moon_31 rfl (lv_at hl 0 rfl) ?_
      refine va_get (D := G.1) (ci := 7) (v := .int (iz tw)) (C := RX9) (T := TX9) (N := 33) hX_ hB_ hts hi_X9_moon_X9 hown hK.1 hP 0 rfl rfl 2 (by decide) (hts _ hw_X9_moon_5201a2) (fun _ h9 => h9) rfl dX9_moon_32 ?_
      refine zk_icmp_lt (tgt := 42) hX_ hB_ (by omega) (by omega) dX9_moon_35 (by decide) (fun c_35 => ?_) (fun c_35 => ?_)
      · skip
        refine zk_iconst hX_ hB_ dX9_moon_42 ?_
        refine zk_topi (y := (zb false)) rfl ?_
        refine zk_iconst hX_ hB_ dX9_moon_43 ?_
        refine back_i (wr := [(bsA, .inl (G.2 0, 10, .inl (av bs)))]) (run_V (As := [.int (zb false), .int (iz 2)]) (rest := []) (wc := [(mo, .inr (7, .int (iz 0) :: .ref bsA :: .int (iz tw) :: .ref tpA :: .int (iz td) :: .int (iz sz) :: .int (iz at_) :: .int (zb iw) :: .ref loA :: .ref hiA :: .long sl :: .long sh :: .ref toA :: .ref mnA :: .ref dyA :: .int (iz sn) :: .ref frA :: .ref t2A :: .ref faA :: .int (iz dn) :: .int (zb iso) :: .ref akA :: .int (iz am) :: .int (iz wr) :: .ref paA :: .ref ofA :: .ref seA :: .ref ecA :: .int (iz em) :: .ref nmA :: .int (iz bst) :: .int (iz bmn) :: .long (lz bsm) :: []))]) F (c_X9_badF l G mo 0 bsA tw tpA td sz at_ iw loA hiA sl sh toA mnA dyA sn frA t2A faA dn iso akA am wr paA ofA seA ecA em nmA bst bmn bsm 2 _) ext0 gX9_moon_X9_bad rfl rfl rfl mdv_X9_bad ⟨Nat.le_of_ble_eq_true rfl, Nat.le_of_ble_eq_true rfl⟩ (va_recv hK.1 (hP.sub (ws' := [(mo, .inr (7, .int (iz 0) :: .ref bsA :: .int (iz tw) :: .ref tpA :: .int (iz td) :: .int (iz sz) :: .int (iz at_) :: .int (zb iw) :: .ref loA :: .ref hiA :: .long sl :: .long sh :: .ref toA :: .ref mnA :: .ref dyA :: .int (iz sn) :: .ref frA :: .ref t2A :: .ref faA :: .int (iz dn) :: .int (zb iso) :: .ref akA :: .int (iz am) :: .int (iz wr) :: .ref paA :: .ref ofA :: .ref seA :: .ref ecA :: .int (iz em) :: .ref nmA :: .int (iz bst) :: .int (iz bmn) :: .long (lz bsm) :: []))]) [0] rfl) (ci := 7) (q0 := 0) rfl rfl) (pre_of ext0 hK hP hD hS hA trivial [0] (by decide) rfl _) rfl hl.1 (Nat.le_of_ble_eq_true rfl) dX9_moon_44 ⟨by decide, by decide⟩) hP hD hS hA [0] [1] rfl rfl (by decide) (by decide) (fun r__ u__ H locs hw hP hD hS => ?_)
        subst hw
        have hP := hP.sub (ws' := [(mo, .inr (7, .int (iz 0) :: .ref bsA :: .int (iz tw) :: .ref tpA :: .int (iz td) :: .int (iz sz) :: .int (iz at_) :: .int (zb iw) :: .ref loA :: .ref hiA :: .long sl :: .long sh :: .ref toA :: .ref mnA :: .ref dyA :: .int (iz sn) :: .ref frA :: .ref t2A :: .ref faA :: .int (iz dn) :: .int (zb iso) :: .ref akA :: .int (iz am) :: .int (iz wr) :: .ref paA :: .ref ofA :: .ref seA :: .ref ecA :: .int (iz em) :: .ref nmA :: .int (iz bst) :: .int (iz bmn) :: .long (lz bsm) :: [])), (bsA, .inl (G.2 0, 10, .inl (av bs)))]) [1, 0] rfl
        have hD := hD.sub (ws' := [(mo, .inr (7, .int (iz 0) :: .ref bsA :: .int (iz tw) :: .ref tpA :: .int (iz td) :: .int (iz sz) :: .int (iz at_) :: .int (zb iw) :: .ref loA :: .ref hiA :: .long sl :: .long sh :: .ref toA :: .ref mnA :: .ref dyA :: .int (iz sn) :: .ref frA :: .ref t2A :: .ref faA :: .int (iz dn) :: .int (zb iso) :: .ref akA :: .int (iz am) :: .int (iz wr) :: .ref paA :: .ref ofA :: .ref seA :: .ref ecA :: .int (iz em) :: .ref nmA :: .int (iz bst) :: .int (iz bmn) :: .long (lz bsm) :: [])), (bsA, .inl (G.2 0, 10, .inl (av bs)))]) [1, 0] (by decide) rfl
        refine zk_bif_eq (tgt := 52) hX_ hB_ dX9_moon_47 (by decide) (fun c_47 => ?_) (fun c_47 => absurd c_47 (by decide))
        have hdd := of_decide_eq_true c_10
        have hbk := hbs k (by omega) (by omega)
        refine lv_iload_n hX_ hB_ dX9_moon_52 rfl (lv_at hl 1 rfl) ?_
        refine lv_aload_n hX_ hB_ dX9_moon_53 rfl (lv_at hl 0 rfl) ?_
        refine va_get (D := G.1) (ci := 7) (v := .ref bsA) (C := RX9) (T := TX9) (N := 33) hX_ hB_ hts hi_X9_moon_X9 hown hK.1 hP 0 rfl rfl 1 (by decide) (hts _ hw_X9_moon_2e1a2b) (fun _ h9 => h9) rfl dX9_moon_54 ?_
        refine lv_iload_n hX_ hB_ dX9_moon_57 rfl (lv_at hl 2 rfl) ?_
        refine zk_iald hX_ hB_ hK.1 hP 1 0 rfl rfl (by omega) (by decide) dX9_moon_58 ?_
        refine back_i (wr := [(mo, .inr (7, .int (iz 0) :: .ref bsA :: .int (iz tw) :: .ref tpA :: .int (iz td) :: .int (iz sz) :: .int (iz at_) :: .int (zb iw) :: .ref loA :: .ref hiA :: .long sl :: .long sh :: .ref toA :: .ref mnA :: .ref dyA :: .int (iz sn) :: .ref frA :: .ref t2A :: .ref faA :: .int (iz dn) :: .int (zb iso) :: .ref akA :: .int (iz am) :: .int (iz wr) :: .ref paA :: .ref ofA :: .ref seA :: .ref ecA :: .int (iz em) :: .ref nmA :: .int (iz bst) :: .int (iz bmn) :: .long (lz bsm) :: [])), (bsA, .inl (G.2 0, 10, .inl (av bs)))]) (run_S (As := [.int (iz d), .int (iz (bs k))]) (rest := []) (wc := []) F (c_X9_moonOf l G d (bs k) (by omega) (by omega) _) ext0 gX9_moon_X9_moonOf rfl rfl rfl mds_X9_moonOf ⟨Nat.le_of_ble_eq_true rfl, Nat.le_of_ble_eq_true rfl⟩ (pre_of ext0 hK hP hD hS hA trivial [] (by decide) rfl _) rfl hl.1 (Nat.le_of_ble_eq_true rfl) dX9_moon_59 ⟨by decide, by decide⟩) hP hD hS hA [] [0, 1] rfl rfl (by decide) (by decide) (fun r__ u__ H locs hw hP hD hS => ?_)
        subst hw
        have hP := hP.sub (ws' := [(mo, .inr (7, .int (iz 0) :: .ref bsA :: .int (iz tw) :: .ref tpA :: .int (iz td) :: .int (iz sz) :: .int (iz at_) :: .int (zb iw) :: .ref loA :: .ref hiA :: .long sl :: .long sh :: .ref toA :: .ref mnA :: .ref dyA :: .int (iz sn) :: .ref frA :: .ref t2A :: .ref faA :: .int (iz dn) :: .int (zb iso) :: .ref akA :: .int (iz am) :: .int (iz wr) :: .ref paA :: .ref ofA :: .ref seA :: .ref ecA :: .int (iz em) :: .ref nmA :: .int (iz bst) :: .int (iz bmn) :: .long (lz bsm) :: [])), (bsA, .inl (G.2 0, 10, .inl (av bs)))]) [0, 1] rfl
        have hD := hD.sub (ws' := [(mo, .inr (7, .int (iz 0) :: .ref bsA :: .int (iz tw) :: .ref tpA :: .int (iz td) :: .int (iz sz) :: .int (iz at_) :: .int (zb iw) :: .ref loA :: .ref hiA :: .long sl :: .long sh :: .ref toA :: .ref mnA :: .ref dyA :: .int (iz sn) :: .ref frA :: .ref t2A :: .ref faA :: .int (iz dn) :: .int (zb iso) :: .ref akA :: .int (iz am) :: .int (iz wr) :: .ref paA :: .ref ofA :: .ref seA :: .ref ecA :: .int (iz em) :: .ref nmA :: .int (iz bst) :: .int (iz bmn) :: .long (lz bsm) :: [])), (bsA, .inl (G.2 0, 10, .inl (av bs)))]) [0, 1] (by decide) rfl
        exact fin_i (wf := (fun th2 : Int => [(mo, .inr (7, .int (iz th2) :: .ref bsA :: .int (iz tw) :: .ref tpA :: .int (iz td) :: .int (iz sz) :: .int (iz at_) :: .int (zb iw) :: .ref loA :: .ref hiA :: .long sl :: .long sh :: .ref toA :: .ref mnA :: .ref dyA :: .int (iz sn) :: .ref frA :: .ref t2A :: .ref faA :: .int (iz dn) :: .int (zb iso) :: .ref akA :: .int (iz am) :: .int (iz wr) :: .ref paA :: .ref ofA :: .ref seA :: .ref ecA :: .int (iz em) :: .ref nmA :: .int (iz bst) :: .int (iz bmn) :: .long (lz bsm) :: [])), (bsA, .inl (G.2 0, 10, .inl (av bs)))])) 0 F rfl hP hD hK hS (by decide) (by decide) dX9_moon_62 (by exact ⟨fun q => absurd (c_10.symm.trans q) (by decide), fun _ q => absurd (by omega) q, fun _ _ => ⟨rfl, rfl⟩⟩)
      · skip
        refine zk_iconst hX_ hB_ dX9_moon_38 ?_
        refine zk_topi (y := (zb true)) rfl ?_
        refine lv_goto (tgt := 43) hX_ hB_ dX9_moon_39 (by decide) ?_
        refine zk_iconst hX_ hB_ dX9_moon_43 ?_
        refine back_i (wr := [(bsA, .inl (G.2 0, 10, .inl (av bs)))]) (run_V (As := [.int (zb true), .int (iz 2)]) (rest := []) (wc := [(mo, .inr (7, .int (iz 0) :: .ref bsA :: .int (iz tw) :: .ref tpA :: .int (iz td) :: .int (iz sz) :: .int (iz at_) :: .int (zb iw) :: .ref loA :: .ref hiA :: .long sl :: .long sh :: .ref toA :: .ref mnA :: .ref dyA :: .int (iz sn) :: .ref frA :: .ref t2A :: .ref faA :: .int (iz dn) :: .int (zb iso) :: .ref akA :: .int (iz am) :: .int (iz wr) :: .ref paA :: .ref ofA :: .ref seA :: .ref ecA :: .int (iz em) :: .ref nmA :: .int (iz bst) :: .int (iz bmn) :: .long (lz bsm) :: []))]) F (c_X9_badT l G mo 0 bsA tw tpA td sz at_ iw loA hiA sl sh toA mnA dyA sn frA t2A faA dn iso akA am wr paA ofA seA ecA em nmA bst bmn bsm 2 _) ext0 gX9_moon_X9_bad rfl rfl rfl mdv_X9_bad ⟨Nat.le_of_ble_eq_true rfl, Nat.le_of_ble_eq_true rfl⟩ (va_recv hK.1 (hP.sub (ws' := [(mo, .inr (7, .int (iz 0) :: .ref bsA :: .int (iz tw) :: .ref tpA :: .int (iz td) :: .int (iz sz) :: .int (iz at_) :: .int (zb iw) :: .ref loA :: .ref hiA :: .long sl :: .long sh :: .ref toA :: .ref mnA :: .ref dyA :: .int (iz sn) :: .ref frA :: .ref t2A :: .ref faA :: .int (iz dn) :: .int (zb iso) :: .ref akA :: .int (iz am) :: .int (iz wr) :: .ref paA :: .ref ofA :: .ref seA :: .ref ecA :: .int (iz em) :: .ref nmA :: .int (iz bst) :: .int (iz bmn) :: .long (lz bsm) :: []))]) [0] rfl) (ci := 7) (q0 := 0) rfl rfl) (pre_of ext0 hK hP hD hS hA trivial [0] (by decide) rfl _) rfl hl.1 (Nat.le_of_ble_eq_true rfl) dX9_moon_44 ⟨by decide, by decide⟩) hP hD hS hA [0] [1] rfl rfl (by decide) (by decide) (fun r__ u__ H locs hw hP hD hS => ?_)
        subst hw
        have hP := hP.sub (ws' := [(mo, .inr (7, .int (iz 2) :: .ref bsA :: .int (iz tw) :: .ref tpA :: .int (iz td) :: .int (iz sz) :: .int (iz at_) :: .int (zb iw) :: .ref loA :: .ref hiA :: .long sl :: .long sh :: .ref toA :: .ref mnA :: .ref dyA :: .int (iz sn) :: .ref frA :: .ref t2A :: .ref faA :: .int (iz dn) :: .int (zb iso) :: .ref akA :: .int (iz am) :: .int (iz wr) :: .ref paA :: .ref ofA :: .ref seA :: .ref ecA :: .int (iz em) :: .ref nmA :: .int (iz bst) :: .int (iz bmn) :: .long (lz bsm) :: [])), (bsA, .inl (G.2 0, 10, .inl (av bs)))]) [1, 0] rfl
        have hD := hD.sub (ws' := [(mo, .inr (7, .int (iz 2) :: .ref bsA :: .int (iz tw) :: .ref tpA :: .int (iz td) :: .int (iz sz) :: .int (iz at_) :: .int (zb iw) :: .ref loA :: .ref hiA :: .long sl :: .long sh :: .ref toA :: .ref mnA :: .ref dyA :: .int (iz sn) :: .ref frA :: .ref t2A :: .ref faA :: .int (iz dn) :: .int (zb iso) :: .ref akA :: .int (iz am) :: .int (iz wr) :: .ref paA :: .ref ofA :: .ref seA :: .ref ecA :: .int (iz em) :: .ref nmA :: .int (iz bst) :: .int (iz bmn) :: .long (lz bsm) :: [])), (bsA, .inl (G.2 0, 10, .inl (av bs)))]) [1, 0] (by decide) rfl
        refine zk_bif_eq (tgt := 52) hX_ hB_ dX9_moon_47 (by decide) (fun c_47 => absurd c_47 (by decide)) (fun c_47 => ?_)
        refine zk_iconst hX_ hB_ dX9_moon_50 ?_
        exact fin_i (wf := (fun th2 : Int => [(mo, .inr (7, .int (iz th2) :: .ref bsA :: .int (iz tw) :: .ref tpA :: .int (iz td) :: .int (iz sz) :: .int (iz at_) :: .int (zb iw) :: .ref loA :: .ref hiA :: .long sl :: .long sh :: .ref toA :: .ref mnA :: .ref dyA :: .int (iz sn) :: .ref frA :: .ref t2A :: .ref faA :: .int (iz dn) :: .int (zb iso) :: .ref akA :: .int (iz am) :: .int (iz wr) :: .ref paA :: .ref ofA :: .ref seA :: .ref ecA :: .int (iz em) :: .ref nmA :: .int (iz bst) :: .int (iz bmn) :: .long (lz bsm) :: [])), (bsA, .inl (G.2 0, 10, .inl (av bs)))])) 2 F rfl hP hD hK hS (by decide) (by decide) dX9_moon_51 (by exact ⟨fun q => absurd (c_10.symm.trans q) (by decide), fun _ _ => rfl, fun _ q => absurd q (by omega)⟩)
  · skip
    refine zk_iconst hX_ hB_ dX9_moon_13 ?_
    refine zk_topi (y := (zb true)) rfl ?_
    refine lv_goto (tgt := 18) hX_ hB_ dX9_moon_14 (by decide) ?_
    refine zk_iconst hX_ hB_ dX9_moon_18 ?_
    refine back_i (wr := [(bsA, .inl (G.2 0, 10, .inl (av bs)))]) (run_V (As := [.int (zb true), .int (iz 1)]) (rest := []) (wc := [(mo, .inr (7, .int (iz 0) :: .ref bsA :: .int (iz tw) :: .ref tpA :: .int (iz td) :: .int (iz sz) :: .int (iz at_) :: .int (zb iw) :: .ref loA :: .ref hiA :: .long sl :: .long sh :: .ref toA :: .ref mnA :: .ref dyA :: .int (iz sn) :: .ref frA :: .ref t2A :: .ref faA :: .int (iz dn) :: .int (zb iso) :: .ref akA :: .int (iz am) :: .int (iz wr) :: .ref paA :: .ref ofA :: .ref seA :: .ref ecA :: .int (iz em) :: .ref nmA :: .int (iz bst) :: .int (iz bmn) :: .long (lz bsm) :: []))]) F (c_X9_badT l G mo 0 bsA tw tpA td sz at_ iw loA hiA sl sh toA mnA dyA sn frA t2A faA dn iso akA am wr paA ofA seA ecA em nmA bst bmn bsm 1 _) ext0 gX9_moon_X9_bad rfl rfl rfl mdv_X9_bad ⟨Nat.le_of_ble_eq_true rfl, Nat.le_of_ble_eq_true rfl⟩ (va_recv hK.1 (hP.sub (ws' := [(mo, .inr (7, .int (iz 0) :: .ref bsA :: .int (iz tw) :: .ref tpA :: .int (iz td) :: .int (iz sz) :: .int (iz at_) :: .int (zb iw) :: .ref loA :: .ref hiA :: .long sl :: .long sh :: .ref toA :: .ref mnA :: .ref dyA :: .int (iz sn) :: .ref frA :: .ref t2A :: .ref faA :: .int (iz dn) :: .int (zb iso) :: .ref akA :: .int (iz am) :: .int (iz wr) :: .ref paA :: .ref ofA :: .ref seA :: .ref ecA :: .int (iz em) :: .ref nmA :: .int (iz bst) :: .int (iz bmn) :: .long (lz bsm) :: []))]) [0] rfl) (ci := 7) (q0 := 0) rfl rfl) (pre_of ext0 hK hP hD hS hA trivial [0] (by decide) rfl _) rfl hl.1 (Nat.le_of_ble_eq_true rfl) dX9_moon_19 ⟨by decide, by decide⟩) hP hD hS hA [0] [1] rfl rfl (by decide) (by decide) (fun r__ u__ H locs hw hP hD hS => ?_)
    subst hw
    have hP := hP.sub (ws' := [(mo, .inr (7, .int (iz 1) :: .ref bsA :: .int (iz tw) :: .ref tpA :: .int (iz td) :: .int (iz sz) :: .int (iz at_) :: .int (zb iw) :: .ref loA :: .ref hiA :: .long sl :: .long sh :: .ref toA :: .ref mnA :: .ref dyA :: .int (iz sn) :: .ref frA :: .ref t2A :: .ref faA :: .int (iz dn) :: .int (zb iso) :: .ref akA :: .int (iz am) :: .int (iz wr) :: .ref paA :: .ref ofA :: .ref seA :: .ref ecA :: .int (iz em) :: .ref nmA :: .int (iz bst) :: .int (iz bmn) :: .long (lz bsm) :: [])), (bsA, .inl (G.2 0, 10, .inl (av bs)))]) [1, 0] rfl
    have hD := hD.sub (ws' := [(mo, .inr (7, .int (iz 1) :: .ref bsA :: .int (iz tw) :: .ref tpA :: .int (iz td) :: .int (iz sz) :: .int (iz at_) :: .int (zb iw) :: .ref loA :: .ref hiA :: .long sl :: .long sh :: .ref toA :: .ref mnA :: .ref dyA :: .int (iz sn) :: .ref frA :: .ref t2A :: .ref faA :: .int (iz dn) :: .int (zb iso) :: .ref akA :: .int (iz am) :: .int (iz wr) :: .ref paA :: .ref ofA :: .ref seA :: .ref ecA :: .int (iz em) :: .ref nmA :: .int (iz bst) :: .int (iz bmn) :: .long (lz bsm) :: [])), (bsA, .inl (G.2 0, 10, .inl (av bs)))]) [1, 0] (by decide) rfl
    refine zk_bif_ne (tgt := 50) hX_ hB_ dX9_moon_22 (by decide) (fun c_22 => ?_) (fun c_22 => absurd c_22 (by decide))
    refine zk_iconst hX_ hB_ dX9_moon_50 ?_
    exact fin_i (wf := (fun th2 : Int => [(mo, .inr (7, .int (iz th2) :: .ref bsA :: .int (iz tw) :: .ref tpA :: .int (iz td) :: .int (iz sz) :: .int (iz at_) :: .int (zb iw) :: .ref loA :: .ref hiA :: .long sl :: .long sh :: .ref toA :: .ref mnA :: .ref dyA :: .int (iz sn) :: .ref frA :: .ref t2A :: .ref faA :: .int (iz dn) :: .int (zb iso) :: .ref akA :: .int (iz am) :: .int (iz wr) :: .ref paA :: .ref ofA :: .ref seA :: .ref ecA :: .int (iz em) :: .ref nmA :: .int (iz bst) :: .int (iz bmn) :: .long (lz bsm) :: [])), (bsA, .inl (G.2 0, 10, .inl (av bs)))])) 1 F rfl hP hD hK hS (by decide) (by decide) dX9_moon_51 (by exact ⟨fun _ => rfl, fun q => absurd (c_10.symm.trans q) (by decide), fun q => absurd (c_10.symm.trans q) (by decide)⟩)

theorem hw_X9_feed_3af6b2 : (.fieldLink RX9 61 "StoneDatesModel" "thrown" "I" : Cond) ∈ wsX9_feed := by decide +kernel
theorem hi_X9_feed_X9 : ∀ w ∈ u_ws RX9 TX9 33, w ∈ wsX9_feed := by decide +kernel
theorem hw_X9_feed_afabec : (.fieldLink RX9 90 "StoneDatesModel" "taped" "I" : Cond) ∈ wsX9_feed := by decide +kernel
theorem hw_X9_feed_c83589 : (.fieldLink RX9 13 "StoneDatesModel" "tape" "[B" : Cond) ∈ wsX9_feed := by decide +kernel
set_option maxHeartbeats 4000000 in
set_option maxRecDepth 100000 in
theorem c_X9_feed (l : Launch) (G : GG) (mo : Nat) (th : Int) (bsA : Nat) (tw : Int) (tpA : Nat) (td : Int) (sz : Int) (at_ : Int) (iw : Bool) (loA : Nat) (hiA : Nat) (sl : Int64) (sh : Int64) (toA : Nat) (mnA : Nat) (dyA : Nat) (sn : Int) (frA : Nat) (t2A : Nat) (faA : Nat) (dn : Int) (iso : Bool) (akA : Nat) (am : Int) (wr : Int) (paA : Nat) (ofA : Nat) (seA : Nat) (ecA : Nat) (em : Int) (nmA : Nat) (bst : Int) (bmn : Int) (bsm : Int) (tp : Int → Int32) (bt : Int → Int) (a0 : Int32) (a1 : Int32) (a2 : Int32) (a3 : Int32) (a4 : Int32) (hrt : RT tp bt) (htd : 0 ≤ td ∧ td ≤ 200) : Ci l yX9_feed wsX9_feed ({ frames := 0, cells := 0, slots := 0, locals := 0 }) G E0 [.ref mo, .int a0, .int a1, .int a2, .int a3, .int a4] [(mo, .inr (7, .int (iz th) :: .ref bsA :: .int (iz tw) :: .ref tpA :: .int (iz td) :: .int (iz sz) :: .int (iz at_) :: .int (zb iw) :: .ref loA :: .ref hiA :: .long sl :: .long sh :: .ref toA :: .ref mnA :: .ref dyA :: .int (iz sn) :: .ref frA :: .ref t2A :: .ref faA :: .int (iz dn) :: .int (zb iso) :: .ref akA :: .int (iz am) :: .int (iz wr) :: .ref paA :: .ref ofA :: .ref seA :: .ref ecA :: .int (iz em) :: .ref nmA :: .int (iz bst) :: .int (iz bmn) :: .long (lz bsm) :: [])), (tpA, .inl (G.2 1, 200, .inl (rv tp)))] 0 0 (fun u : Int × (Int → Int32) => match u with | (td2, tp2) => [(mo, .inr (7, .int (iz 0) :: .ref bsA :: .int (iz tw) :: .ref tpA :: .int (iz td2) :: .int (iz sz) :: .int (iz at_) :: .int (zb iw) :: .ref loA :: .ref hiA :: .long sl :: .long sh :: .ref toA :: .ref mnA :: .ref dyA :: .int (iz sn) :: .ref frA :: .ref t2A :: .ref faA :: .int (iz dn) :: .int (zb iso) :: .ref akA :: .int (iz am) :: .int (iz wr) :: .ref paA :: .ref ofA :: .ref seA :: .ref ecA :: .int (iz em) :: .ref nmA :: .int (iz bst) :: .int (iz bmn) :: .long (lz bsm) :: [])), (tpA, .inl (G.2 1, 200, .inl (rv tp2)))]) (fun (r : Int32) (u : Int × (Int → Int32)) => match u with | (td2, tp2) => (r = (iz (if td + 20 ≤ 200 then td + 20 else -1))) ∧ ((td + 20 ≤ 200 → td2 = td + 20 ∧ RT tp2 (fd bt td a0 a1 a2 a3 a4)) ∧ (¬ td + 20 ≤ 200 → td2 = td ∧ tp2 = tp))) := by
  refine Ci_intro (cc := cX9_feed) (maxL := 9) (ret := (some .int)) (by decide) rfl (Nat.le_of_ble_eq_true rfl) ?_
  intro p e s m below meth c A F hA hP hD hK hE ls hl
  have hX_ := F.1
  have hB_ := F.2.1
  have hts := F.2.2.2.2.2.1
  have hown := F.2.2.2.2.1
  have hml := F.2.2.2.1
  have hS : va_S A s.heap s.heap [] := va_S.rf
  have hl : lv_has ls 9 [(0, .ref mo), (1, .int a0), (2, .int a1), (3, .int a2), (4, .int a3), (5, .int a4)] := hl
  refine lv_aload_n hX_ hB_ dX9_feed_0 rfl (lv_at hl 0 rfl) ?_
  refine zk_iconst hX_ hB_ dX9_feed_1 ?_
  refine va_put (D := G.1) (ci := 7) (v := .int (iz 0)) (ty := .int) (C := RX9) (T := TX9) (N := 33) hX_ hB_ hts hi_X9_feed_X9 tyX9 tyX9_ok nmX9 hown hK.1 hP hD hS 0 rfl rfl 0 (by decide) (hts _ hw_X9_feed_3af6b2) (fun _ h9 => h9) rfl (by decide +kernel) rfl rfl (Nat.le_of_ble_eq_true rfl) dX9_feed_2 (fun H locs hP hD hS => ?_)
  have hP : va_P G.1 vwCl [(mo, .inr (7, .int (iz 0) :: .ref bsA :: .int (iz tw) :: .ref tpA :: .int (iz td) :: .int (iz sz) :: .int (iz at_) :: .int (zb iw) :: .ref loA :: .ref hiA :: .long sl :: .long sh :: .ref toA :: .ref mnA :: .ref dyA :: .int (iz sn) :: .ref frA :: .ref t2A :: .ref faA :: .int (iz dn) :: .int (zb iso) :: .ref akA :: .int (iz am) :: .int (iz wr) :: .ref paA :: .ref ofA :: .ref seA :: .ref ecA :: .int (iz em) :: .ref nmA :: .int (iz bst) :: .int (iz bmn) :: .long (lz bsm) :: [])), (tpA, .inl (G.2 1, 200, .inl (rv tp)))] _ := hP
  have hD : va_D A [(mo, .inr (7, .int (iz 0) :: .ref bsA :: .int (iz tw) :: .ref tpA :: .int (iz td) :: .int (iz sz) :: .int (iz at_) :: .int (zb iw) :: .ref loA :: .ref hiA :: .long sl :: .long sh :: .ref toA :: .ref mnA :: .ref dyA :: .int (iz sn) :: .ref frA :: .ref t2A :: .ref faA :: .int (iz dn) :: .int (zb iso) :: .ref akA :: .int (iz am) :: .int (iz wr) :: .ref paA :: .ref ofA :: .ref seA :: .ref ecA :: .int (iz em) :: .ref nmA :: .int (iz bst) :: .int (iz bmn) :: .long (lz bsm) :: [])), (tpA, .inl (G.2 1, 200, .inl (rv tp)))] := hD
  refine lv_aload_n hX_ hB_ dX9_feed_5 rfl (lv_at hl 0 rfl) ?_
  refine va_get (D := G.1) (ci := 7) (v := .int (iz td)) (C := RX9) (T := TX9) (N := 33) hX_ hB_ hts hi_X9_feed_X9 hown hK.1 hP 0 rfl rfl 4 (by decide) (hts _ hw_X9_feed_afabec) (fun _ h9 => h9) rfl dX9_feed_6 ?_
  refine zk_bipush hX_ hB_ (by decide) dX9_feed_9 ?_
  refine zk_iadd hX_ hB_ dX9_feed_11 ?_
  refine zk_sipush hX_ hB_ (by decide) dX9_feed_12 ?_
  refine zk_icmp_le (tgt := 20) hX_ hB_ (by omega) (by omega) dX9_feed_15 (by decide) (fun c_15 => ?_) (fun c_15 => ?_)
  · skip
    refine zk_iconst hX_ hB_ dX9_feed_20 ?_
    refine lv_istore (lv' := [(6, .int (iz 0)), (0, .ref mo), (1, .int a0), (2, .int a1), (3, .int a2), (4, .int a3), (5, .int a4)]) hX_ hB_ dX9_feed_21 hl (by decide) rfl (fun ls hl => ?_)
    have loop_23 : ∀ (n_23 : Nat), ∀ (w : Int) (tq : Int → Int32) (t9 : Int), (0 ≤ w ∧ w ≤ 5) → (t9 = td + 4 * w) → (RT tq (fdN bt td (a5 a0 a1 a2 a3 a4)  w.toNat)) → ((5 - w).toNat < n_23) → ∀ (H : Heap) (locs : List Loc), va_P G.1 vwCl [(mo, .inr (7, .int (iz 0) :: .ref bsA :: .int (iz tw) :: .ref tpA :: .int (iz t9) :: .int (iz sz) :: .int (iz at_) :: .int (zb iw) :: .ref loA :: .ref hiA :: .long sl :: .long sh :: .ref toA :: .ref mnA :: .ref dyA :: .int (iz sn) :: .ref frA :: .ref t2A :: .ref faA :: .int (iz dn) :: .int (zb iso) :: .ref akA :: .int (iz am) :: .int (iz wr) :: .ref paA :: .ref ofA :: .ref seA :: .ref ecA :: .int (iz em) :: .ref nmA :: .int (iz bst) :: .int (iz bmn) :: .long (lz bsm) :: [])), (tpA, .inl (G.2 1, 200, .inl (rv tq)))] H → va_D A [(mo, .inr (7, .int (iz 0) :: .ref bsA :: .int (iz tw) :: .ref tpA :: .int (iz t9) :: .int (iz sz) :: .int (iz at_) :: .int (zb iw) :: .ref loA :: .ref hiA :: .long sl :: .long sh :: .ref toA :: .ref mnA :: .ref dyA :: .int (iz sn) :: .ref frA :: .ref t2A :: .ref faA :: .int (iz dn) :: .int (zb iso) :: .ref akA :: .int (iz am) :: .int (iz wr) :: .ref paA :: .ref ofA :: .ref seA :: .ref ecA :: .int (iz em) :: .ref nmA :: .int (iz bst) :: .int (iz bmn) :: .long (lz bsm) :: [])), (tpA, .inl (G.2 1, 200, .inl (rv tq)))] → va_S A s.heap H locs → ∀ ls : Array Slot, lv_has ls 9 [(0, .ref mo), (1, .int a0), (2, .int a1), (3, .int a2), (4, .int a3), (5, .int a4), (6, .int (iz w))] → W p l e ({ frames := 0, cells := 0, slots := 0, locals := 0 }) s m ([.ref mo, .int a0, .int a1, .int a2, .int a3, .int a4] : List Value).toArray below meth c H locs 0 0 (MQ below (va_Qi (fun (r : Int32) (u : Int × (Int → Int32)) => match u with | (td2, tp2) => (r = (iz (if td + 20 ≤ 200 then td + 20 else -1))) ∧ ((td + 20 ≤ 200 → td2 = td + 20 ∧ RT tp2 (fd bt td a0 a1 a2 a3 a4)) ∧ (¬ td + 20 ≤ 200 → td2 = td ∧ tp2 = tp))) (fun u__ t__ => Pst G A ((fun u : Int × (Int → Int32) => match u with | (td2, tp2) => [(mo, .inr (7, .int (iz 0) :: .ref bsA :: .int (iz tw) :: .ref tpA :: .int (iz td2) :: .int (iz sz) :: .int (iz at_) :: .int (zb iw) :: .ref loA :: .ref hiA :: .long sl :: .long sh :: .ref toA :: .ref mnA :: .ref dyA :: .int (iz sn) :: .ref frA :: .ref t2A :: .ref faA :: .int (iz dn) :: .int (zb iso) :: .ref akA :: .int (iz am) :: .int (iz wr) :: .ref paA :: .ref ofA :: .ref seA :: .ref ecA :: .int (iz em) :: .ref nmA :: .int (iz bst) :: .int (iz bmn) :: .long (lz bsm) :: [])), (tpA, .inl (G.2 1, 200, .inl (rv tp2)))]) u__) t__) A) ([.ref mo, .int a0, .int a1, .int a2, .int a3, .int a4] : List Value).toArray s 0 0 A) (F0 m 23 ls []) := by
      intro n_23
      induction n_23 with
      | zero =>
        intro w tq t9 hw0 ht9 hrw hm H locs hP hD hS ls hl
        exact absurd hm (Nat.not_lt_zero _)
      | succ n_23 ih_23 =>
        intro w tq t9 hw0 ht9 hrw hm H locs hP hD hS ls hl
        refine lv_iload hX_ hB_ dX9_feed_23 (lv_at hl 6 rfl) ?_
        refine zk_iconst hX_ hB_ dX9_feed_25 ?_
        refine zk_icmp_ge (tgt := 119) hX_ hB_ (by omega) (by omega) dX9_feed_26 (by decide) (fun c_26 => ?_) (fun c_26 => ?_)
        · skip
          refine lv_aload_n hX_ hB_ dX9_feed_119 rfl (lv_at hl 0 rfl) ?_
          refine va_get (D := G.1) (ci := 7) (v := .int (iz t9)) (C := RX9) (T := TX9) (N := 33) hX_ hB_ hts hi_X9_feed_X9 hown hK.1 hP 0 rfl rfl 4 (by decide) (hts _ hw_X9_feed_afabec) (fun _ h9 => h9) rfl dX9_feed_120 ?_
          have ew : w = 5 := (by omega)
          subst ew
          exact fin_i (wf := (fun u : Int × (Int → Int32) => match u with | (td2, tp2) => [(mo, .inr (7, .int (iz 0) :: .ref bsA :: .int (iz tw) :: .ref tpA :: .int (iz td2) :: .int (iz sz) :: .int (iz at_) :: .int (zb iw) :: .ref loA :: .ref hiA :: .long sl :: .long sh :: .ref toA :: .ref mnA :: .ref dyA :: .int (iz sn) :: .ref frA :: .ref t2A :: .ref faA :: .int (iz dn) :: .int (zb iso) :: .ref akA :: .int (iz am) :: .int (iz wr) :: .ref paA :: .ref ofA :: .ref seA :: .ref ecA :: .int (iz em) :: .ref nmA :: .int (iz bst) :: .int (iz bmn) :: .long (lz bsm) :: [])), (tpA, .inl (G.2 1, 200, .inl (rv tp2)))])) (t9, tq) F rfl hP hD hK hS (by decide) (by decide) dX9_feed_123 (by exact ⟨by rw [if_pos (by omega), ht9]; rfl, fun _ => ⟨by omega, by rw [← fd_eq]; exact hrw⟩, fun q => absurd (by omega) q⟩)
        · skip
          have join_71 : ∀ (v : Int32), (v = a5 a0 a1 a2 a3 a4 w) → ∀ (H : Heap) (locs : List Loc), va_P G.1 vwCl [(mo, .inr (7, .int (iz 0) :: .ref bsA :: .int (iz tw) :: .ref tpA :: .int (iz t9) :: .int (iz sz) :: .int (iz at_) :: .int (zb iw) :: .ref loA :: .ref hiA :: .long sl :: .long sh :: .ref toA :: .ref mnA :: .ref dyA :: .int (iz sn) :: .ref frA :: .ref t2A :: .ref faA :: .int (iz dn) :: .int (zb iso) :: .ref akA :: .int (iz am) :: .int (iz wr) :: .ref paA :: .ref ofA :: .ref seA :: .ref ecA :: .int (iz em) :: .ref nmA :: .int (iz bst) :: .int (iz bmn) :: .long (lz bsm) :: [])), (tpA, .inl (G.2 1, 200, .inl (rv tq)))] H → va_D A [(mo, .inr (7, .int (iz 0) :: .ref bsA :: .int (iz tw) :: .ref tpA :: .int (iz t9) :: .int (iz sz) :: .int (iz at_) :: .int (zb iw) :: .ref loA :: .ref hiA :: .long sl :: .long sh :: .ref toA :: .ref mnA :: .ref dyA :: .int (iz sn) :: .ref frA :: .ref t2A :: .ref faA :: .int (iz dn) :: .int (zb iso) :: .ref akA :: .int (iz am) :: .int (iz wr) :: .ref paA :: .ref ofA :: .ref seA :: .ref ecA :: .int (iz em) :: .ref nmA :: .int (iz bst) :: .int (iz bmn) :: .long (lz bsm) :: [])), (tpA, .inl (G.2 1, 200, .inl (rv tq)))] → va_S A s.heap H locs → ∀ ls : Array Slot, lv_has ls 9 [(0, .ref mo), (1, .int a0), (2, .int a1), (3, .int a2), (4, .int a3), (5, .int a4), (6, .int (iz w))] → W p l e ({ frames := 0, cells := 0, slots := 0, locals := 0 }) s m ([.ref mo, .int a0, .int a1, .int a2, .int a3, .int a4] : List Value).toArray below meth c H locs 0 0 (MQ below (va_Qi (fun (r : Int32) (u : Int × (Int → Int32)) => match u with | (td2, tp2) => (r = (iz (if td + 20 ≤ 200 then td + 20 else -1))) ∧ ((td + 20 ≤ 200 → td2 = td + 20 ∧ RT tp2 (fd bt td a0 a1 a2 a3 a4)) ∧ (¬ td + 20 ≤ 200 → td2 = td ∧ tp2 = tp))) (fun u__ t__ => Pst G A ((fun u : Int × (Int → Int32) => match u with | (td2, tp2) => [(mo, .inr (7, .int (iz 0) :: .ref bsA :: .int (iz tw) :: .ref tpA :: .int (iz td2) :: .int (iz sz) :: .int (iz at_) :: .int (zb iw) :: .ref loA :: .ref hiA :: .long sl :: .long sh :: .ref toA :: .ref mnA :: .ref dyA :: .int (iz sn) :: .ref frA :: .ref t2A :: .ref faA :: .int (iz dn) :: .int (zb iso) :: .ref akA :: .int (iz am) :: .int (iz wr) :: .ref paA :: .ref ofA :: .ref seA :: .ref ecA :: .int (iz em) :: .ref nmA :: .int (iz bst) :: .int (iz bmn) :: .long (lz bsm) :: [])), (tpA, .inl (G.2 1, 200, .inl (rv tp2)))]) u__) t__) A) ([.ref mo, .int a0, .int a1, .int a2, .int a3, .int a4] : List Value).toArray s 0 0 A) (F0 m 71 ls [.int v]) := by
            intro v hv H locs hP hD hS ls hl
            refine lv_istore (lv' := [(7, .int v), (0, .ref mo), (1, .int a0), (2, .int a1), (3, .int a2), (4, .int a3), (5, .int a4), (6, .int (iz w))]) hX_ hB_ dX9_feed_71 hl (by decide) rfl (fun ls hl => ?_)
            refine zk_bipush hX_ hB_ (by decide) dX9_feed_73 ?_
            refine lv_istore (lv' := [(8, .int (iz 24)), (7, .int v), (0, .ref mo), (1, .int a0), (2, .int a1), (3, .int a2), (4, .int a3), (5, .int a4), (6, .int (iz w))]) hX_ hB_ dX9_feed_75 hl (by decide) rfl (fun ls hl => ?_)
            refine lv_iload hX_ hB_ dX9_feed_77 (lv_at hl 0 rfl) ?_
            refine zk_if_lt (tgt := 113) hX_ hB_ (by omega) dX9_feed_79 (by decide) (fun c_79 => absurd c_79 (by decide)) (fun c_79 => ?_)
            refine lv_aload_n hX_ hB_ dX9_feed_82 rfl (lv_at hl 2 rfl) ?_
            refine va_get (D := G.1) (ci := 7) (v := .ref tpA) (C := RX9) (T := TX9) (N := 33) hX_ hB_ hts hi_X9_feed_X9 hown hK.1 hP 0 rfl rfl 3 (by decide) (hts _ hw_X9_feed_c83589) (fun _ h9 => h9) rfl dX9_feed_83 ?_
            refine lv_aload_n hX_ hB_ dX9_feed_86 rfl (lv_at hl 2 rfl) ?_
            refine va_get (D := G.1) (ci := 7) (v := .int (iz t9)) (C := RX9) (T := TX9) (N := 33) hX_ hB_ hts hi_X9_feed_X9 hown hK.1 hP 0 rfl rfl 4 (by decide) (hts _ hw_X9_feed_afabec) (fun _ h9 => h9) rfl dX9_feed_87 ?_
            refine lv_iload hX_ hB_ dX9_feed_90 (lv_at hl 1 rfl) ?_
            refine lv_iload hX_ hB_ dX9_feed_92 (lv_at hl 0 rfl) ?_
            refine lv_ishr hX_ hB_ dX9_feed_94 ?_
            refine lv_i2b hX_ hB_ dX9_feed_95 rfl ?_
            refine zk_bastr hX_ hB_ hK.1 hP hD hS 1 1 rfl rfl (by omega) (by decide) dX9_feed_96 (fun H locs hP hD hS => ?_)
            have hP : va_P G.1 vwCl [(mo, .inr (7, .int (iz 0) :: .ref bsA :: .int (iz tw) :: .ref tpA :: .int (iz t9) :: .int (iz sz) :: .int (iz at_) :: .int (zb iw) :: .ref loA :: .ref hiA :: .long sl :: .long sh :: .ref toA :: .ref mnA :: .ref dyA :: .int (iz sn) :: .ref frA :: .ref t2A :: .ref faA :: .int (iz dn) :: .int (zb iso) :: .ref akA :: .int (iz am) :: .int (iz wr) :: .ref paA :: .ref ofA :: .ref seA :: .ref ecA :: .int (iz em) :: .ref nmA :: .int (iz bst) :: .int (iz bmn) :: .long (lz bsm) :: [])), (tpA, .inl (G.2 1, 200, .inl (rv (us tq t9 (vp_nar .byte ((v >>> ((iz 24) &&& 31)).toInt8.toInt32))))))] _ := hP
            have hD : va_D A [(mo, .inr (7, .int (iz 0) :: .ref bsA :: .int (iz tw) :: .ref tpA :: .int (iz t9) :: .int (iz sz) :: .int (iz at_) :: .int (zb iw) :: .ref loA :: .ref hiA :: .long sl :: .long sh :: .ref toA :: .ref mnA :: .ref dyA :: .int (iz sn) :: .ref frA :: .ref t2A :: .ref faA :: .int (iz dn) :: .int (zb iso) :: .ref akA :: .int (iz am) :: .int (iz wr) :: .ref paA :: .ref ofA :: .ref seA :: .ref ecA :: .int (iz em) :: .ref nmA :: .int (iz bst) :: .int (iz bmn) :: .long (lz bsm) :: [])), (tpA, .inl (G.2 1, 200, .inl (rv (us tq t9 (vp_nar .byte ((v >>> ((iz 24) &&& 31)).toInt8.toInt32))))))] := hD
            refine lv_aload_n hX_ hB_ dX9_feed_97 rfl (lv_at hl 2 rfl) ?_
            refine lv_dup hX_ hB_ dX9_feed_98 rfl ?_
            refine va_get (D := G.1) (ci := 7) (v := .int (iz t9)) (C := RX9) (T := TX9) (N := 33) hX_ hB_ hts hi_X9_feed_X9 hown hK.1 hP 0 rfl rfl 4 (by decide) (hts _ hw_X9_feed_afabec) (fun _ h9 => h9) rfl dX9_feed_99 ?_
            refine zk_iconst hX_ hB_ dX9_feed_102 ?_
            refine zk_iadd hX_ hB_ dX9_feed_103 ?_
            refine va_put (D := G.1) (ci := 7) (v := .int (iz (t9 + 1))) (ty := .int) (C := RX9) (T := TX9) (N := 33) hX_ hB_ hts hi_X9_feed_X9 tyX9 tyX9_ok nmX9 hown hK.1 hP hD hS 0 rfl rfl 4 (by decide) (hts _ hw_X9_feed_afabec) (fun _ h9 => h9) rfl (by decide +kernel) rfl rfl (Nat.le_of_ble_eq_true rfl) dX9_feed_104 (fun H locs hP hD hS => ?_)
            have hP : va_P G.1 vwCl [(mo, .inr (7, .int (iz 0) :: .ref bsA :: .int (iz tw) :: .ref tpA :: .int (iz (t9 + 1)) :: .int (iz sz) :: .int (iz at_) :: .int (zb iw) :: .ref loA :: .ref hiA :: .long sl :: .long sh :: .ref toA :: .ref mnA :: .ref dyA :: .int (iz sn) :: .ref frA :: .ref t2A :: .ref faA :: .int (iz dn) :: .int (zb iso) :: .ref akA :: .int (iz am) :: .int (iz wr) :: .ref paA :: .ref ofA :: .ref seA :: .ref ecA :: .int (iz em) :: .ref nmA :: .int (iz bst) :: .int (iz bmn) :: .long (lz bsm) :: [])), (tpA, .inl (G.2 1, 200, .inl (rv (us tq t9 (vp_nar .byte ((v >>> ((iz 24) &&& 31)).toInt8.toInt32))))))] _ := hP
            have hD : va_D A [(mo, .inr (7, .int (iz 0) :: .ref bsA :: .int (iz tw) :: .ref tpA :: .int (iz (t9 + 1)) :: .int (iz sz) :: .int (iz at_) :: .int (zb iw) :: .ref loA :: .ref hiA :: .long sl :: .long sh :: .ref toA :: .ref mnA :: .ref dyA :: .int (iz sn) :: .ref frA :: .ref t2A :: .ref faA :: .int (iz dn) :: .int (zb iso) :: .ref akA :: .int (iz am) :: .int (iz wr) :: .ref paA :: .ref ofA :: .ref seA :: .ref ecA :: .int (iz em) :: .ref nmA :: .int (iz bst) :: .int (iz bmn) :: .long (lz bsm) :: [])), (tpA, .inl (G.2 1, 200, .inl (rv (us tq t9 (vp_nar .byte ((v >>> ((iz 24) &&& 31)).toInt8.toInt32))))))] := hD
            refine lv_iinc (v := (iz 16)) (lv' := [(8, .int (iz 16)), (7, .int v), (0, .ref mo), (1, .int a0), (2, .int a1), (3, .int a2), (4, .int a3), (5, .int a4), (6, .int (iz w))]) hX_ hB_ dX9_feed_107 hl (k := 0) rfl (by decide) (by decide) rfl (fun ls hl => ?_)
            refine lv_goto (tgt := 77) hX_ hB_ dX9_feed_110 (by decide) ?_
            refine lv_iload hX_ hB_ dX9_feed_77 (lv_at hl 0 rfl) ?_
            refine zk_if_lt (tgt := 113) hX_ hB_ (by omega) dX9_feed_79 (by decide) (fun c_79 => absurd c_79 (by decide)) (fun c_79 => ?_)
            refine lv_aload_n hX_ hB_ dX9_feed_82 rfl (lv_at hl 2 rfl) ?_
            refine va_get (D := G.1) (ci := 7) (v := .ref tpA) (C := RX9) (T := TX9) (N := 33) hX_ hB_ hts hi_X9_feed_X9 hown hK.1 hP 0 rfl rfl 3 (by decide) (hts _ hw_X9_feed_c83589) (fun _ h9 => h9) rfl dX9_feed_83 ?_
            refine lv_aload_n hX_ hB_ dX9_feed_86 rfl (lv_at hl 2 rfl) ?_
            refine va_get (D := G.1) (ci := 7) (v := .int (iz (t9 + 1))) (C := RX9) (T := TX9) (N := 33) hX_ hB_ hts hi_X9_feed_X9 hown hK.1 hP 0 rfl rfl 4 (by decide) (hts _ hw_X9_feed_afabec) (fun _ h9 => h9) rfl dX9_feed_87 ?_
            refine lv_iload hX_ hB_ dX9_feed_90 (lv_at hl 1 rfl) ?_
            refine lv_iload hX_ hB_ dX9_feed_92 (lv_at hl 0 rfl) ?_
            refine lv_ishr hX_ hB_ dX9_feed_94 ?_
            refine lv_i2b hX_ hB_ dX9_feed_95 rfl ?_
            refine zk_bastr hX_ hB_ hK.1 hP hD hS 1 1 rfl rfl (by omega) (by decide) dX9_feed_96 (fun H locs hP hD hS => ?_)
            have hP : va_P G.1 vwCl [(mo, .inr (7, .int (iz 0) :: .ref bsA :: .int (iz tw) :: .ref tpA :: .int (iz (t9 + 1)) :: .int (iz sz) :: .int (iz at_) :: .int (zb iw) :: .ref loA :: .ref hiA :: .long sl :: .long sh :: .ref toA :: .ref mnA :: .ref dyA :: .int (iz sn) :: .ref frA :: .ref t2A :: .ref faA :: .int (iz dn) :: .int (zb iso) :: .ref akA :: .int (iz am) :: .int (iz wr) :: .ref paA :: .ref ofA :: .ref seA :: .ref ecA :: .int (iz em) :: .ref nmA :: .int (iz bst) :: .int (iz bmn) :: .long (lz bsm) :: [])), (tpA, .inl (G.2 1, 200, .inl (rv (us (us tq t9 (vp_nar .byte ((v >>> ((iz 24) &&& 31)).toInt8.toInt32))) (t9 + 1) (vp_nar .byte ((v >>> ((iz 16) &&& 31)).toInt8.toInt32))))))] _ := hP
            have hD : va_D A [(mo, .inr (7, .int (iz 0) :: .ref bsA :: .int (iz tw) :: .ref tpA :: .int (iz (t9 + 1)) :: .int (iz sz) :: .int (iz at_) :: .int (zb iw) :: .ref loA :: .ref hiA :: .long sl :: .long sh :: .ref toA :: .ref mnA :: .ref dyA :: .int (iz sn) :: .ref frA :: .ref t2A :: .ref faA :: .int (iz dn) :: .int (zb iso) :: .ref akA :: .int (iz am) :: .int (iz wr) :: .ref paA :: .ref ofA :: .ref seA :: .ref ecA :: .int (iz em) :: .ref nmA :: .int (iz bst) :: .int (iz bmn) :: .long (lz bsm) :: [])), (tpA, .inl (G.2 1, 200, .inl (rv (us (us tq t9 (vp_nar .byte ((v >>> ((iz 24) &&& 31)).toInt8.toInt32))) (t9 + 1) (vp_nar .byte ((v >>> ((iz 16) &&& 31)).toInt8.toInt32))))))] := hD
            refine lv_aload_n hX_ hB_ dX9_feed_97 rfl (lv_at hl 2 rfl) ?_
            refine lv_dup hX_ hB_ dX9_feed_98 rfl ?_
            refine va_get (D := G.1) (ci := 7) (v := .int (iz (t9 + 1))) (C := RX9) (T := TX9) (N := 33) hX_ hB_ hts hi_X9_feed_X9 hown hK.1 hP 0 rfl rfl 4 (by decide) (hts _ hw_X9_feed_afabec) (fun _ h9 => h9) rfl dX9_feed_99 ?_
            refine zk_iconst hX_ hB_ dX9_feed_102 ?_
            refine zk_iadd hX_ hB_ dX9_feed_103 ?_
            refine va_put (D := G.1) (ci := 7) (v := .int (iz ((t9 + 1) + 1))) (ty := .int) (C := RX9) (T := TX9) (N := 33) hX_ hB_ hts hi_X9_feed_X9 tyX9 tyX9_ok nmX9 hown hK.1 hP hD hS 0 rfl rfl 4 (by decide) (hts _ hw_X9_feed_afabec) (fun _ h9 => h9) rfl (by decide +kernel) rfl rfl (Nat.le_of_ble_eq_true rfl) dX9_feed_104 (fun H locs hP hD hS => ?_)
            have hP : va_P G.1 vwCl [(mo, .inr (7, .int (iz 0) :: .ref bsA :: .int (iz tw) :: .ref tpA :: .int (iz ((t9 + 1) + 1)) :: .int (iz sz) :: .int (iz at_) :: .int (zb iw) :: .ref loA :: .ref hiA :: .long sl :: .long sh :: .ref toA :: .ref mnA :: .ref dyA :: .int (iz sn) :: .ref frA :: .ref t2A :: .ref faA :: .int (iz dn) :: .int (zb iso) :: .ref akA :: .int (iz am) :: .int (iz wr) :: .ref paA :: .ref ofA :: .ref seA :: .ref ecA :: .int (iz em) :: .ref nmA :: .int (iz bst) :: .int (iz bmn) :: .long (lz bsm) :: [])), (tpA, .inl (G.2 1, 200, .inl (rv (us (us tq t9 (vp_nar .byte ((v >>> ((iz 24) &&& 31)).toInt8.toInt32))) (t9 + 1) (vp_nar .byte ((v >>> ((iz 16) &&& 31)).toInt8.toInt32))))))] _ := hP
            have hD : va_D A [(mo, .inr (7, .int (iz 0) :: .ref bsA :: .int (iz tw) :: .ref tpA :: .int (iz ((t9 + 1) + 1)) :: .int (iz sz) :: .int (iz at_) :: .int (zb iw) :: .ref loA :: .ref hiA :: .long sl :: .long sh :: .ref toA :: .ref mnA :: .ref dyA :: .int (iz sn) :: .ref frA :: .ref t2A :: .ref faA :: .int (iz dn) :: .int (zb iso) :: .ref akA :: .int (iz am) :: .int (iz wr) :: .ref paA :: .ref ofA :: .ref seA :: .ref ecA :: .int (iz em) :: .ref nmA :: .int (iz bst) :: .int (iz bmn) :: .long (lz bsm) :: [])), (tpA, .inl (G.2 1, 200, .inl (rv (us (us tq t9 (vp_nar .byte ((v >>> ((iz 24) &&& 31)).toInt8.toInt32))) (t9 + 1) (vp_nar .byte ((v >>> ((iz 16) &&& 31)).toInt8.toInt32))))))] := hD
            refine lv_iinc (v := (iz 8)) (lv' := [(8, .int (iz 8)), (7, .int v), (0, .ref mo), (1, .int a0), (2, .int a1), (3, .int a2), (4, .int a3), (5, .int a4), (6, .int (iz w))]) hX_ hB_ dX9_feed_107 hl (k := 0) rfl (by decide) (by decide) rfl (fun ls hl => ?_)
            refine lv_goto (tgt := 77) hX_ hB_ dX9_feed_110 (by decide) ?_
            refine lv_iload hX_ hB_ dX9_feed_77 (lv_at hl 0 rfl) ?_
            refine zk_if_lt (tgt := 113) hX_ hB_ (by omega) dX9_feed_79 (by decide) (fun c_79 => absurd c_79 (by decide)) (fun c_79 => ?_)
            refine lv_aload_n hX_ hB_ dX9_feed_82 rfl (lv_at hl 2 rfl) ?_
            refine va_get (D := G.1) (ci := 7) (v := .ref tpA) (C := RX9) (T := TX9) (N := 33) hX_ hB_ hts hi_X9_feed_X9 hown hK.1 hP 0 rfl rfl 3 (by decide) (hts _ hw_X9_feed_c83589) (fun _ h9 => h9) rfl dX9_feed_83 ?_
            refine lv_aload_n hX_ hB_ dX9_feed_86 rfl (lv_at hl 2 rfl) ?_
            refine va_get (D := G.1) (ci := 7) (v := .int (iz ((t9 + 1) + 1))) (C := RX9) (T := TX9) (N := 33) hX_ hB_ hts hi_X9_feed_X9 hown hK.1 hP 0 rfl rfl 4 (by decide) (hts _ hw_X9_feed_afabec) (fun _ h9 => h9) rfl dX9_feed_87 ?_
            refine lv_iload hX_ hB_ dX9_feed_90 (lv_at hl 1 rfl) ?_
            refine lv_iload hX_ hB_ dX9_feed_92 (lv_at hl 0 rfl) ?_
            refine lv_ishr hX_ hB_ dX9_feed_94 ?_
            refine lv_i2b hX_ hB_ dX9_feed_95 rfl ?_
            refine zk_bastr hX_ hB_ hK.1 hP hD hS 1 1 rfl rfl (by omega) (by decide) dX9_feed_96 (fun H locs hP hD hS => ?_)
            have hP : va_P G.1 vwCl [(mo, .inr (7, .int (iz 0) :: .ref bsA :: .int (iz tw) :: .ref tpA :: .int (iz ((t9 + 1) + 1)) :: .int (iz sz) :: .int (iz at_) :: .int (zb iw) :: .ref loA :: .ref hiA :: .long sl :: .long sh :: .ref toA :: .ref mnA :: .ref dyA :: .int (iz sn) :: .ref frA :: .ref t2A :: .ref faA :: .int (iz dn) :: .int (zb iso) :: .ref akA :: .int (iz am) :: .int (iz wr) :: .ref paA :: .ref ofA :: .ref seA :: .ref ecA :: .int (iz em) :: .ref nmA :: .int (iz bst) :: .int (iz bmn) :: .long (lz bsm) :: [])), (tpA, .inl (G.2 1, 200, .inl (rv (us (us (us tq t9 (vp_nar .byte ((v >>> ((iz 24) &&& 31)).toInt8.toInt32))) (t9 + 1) (vp_nar .byte ((v >>> ((iz 16) &&& 31)).toInt8.toInt32))) ((t9 + 1) + 1) (vp_nar .byte ((v >>> ((iz 8) &&& 31)).toInt8.toInt32))))))] _ := hP
            have hD : va_D A [(mo, .inr (7, .int (iz 0) :: .ref bsA :: .int (iz tw) :: .ref tpA :: .int (iz ((t9 + 1) + 1)) :: .int (iz sz) :: .int (iz at_) :: .int (zb iw) :: .ref loA :: .ref hiA :: .long sl :: .long sh :: .ref toA :: .ref mnA :: .ref dyA :: .int (iz sn) :: .ref frA :: .ref t2A :: .ref faA :: .int (iz dn) :: .int (zb iso) :: .ref akA :: .int (iz am) :: .int (iz wr) :: .ref paA :: .ref ofA :: .ref seA :: .ref ecA :: .int (iz em) :: .ref nmA :: .int (iz bst) :: .int (iz bmn) :: .long (lz bsm) :: [])), (tpA, .inl (G.2 1, 200, .inl (rv (us (us (us tq t9 (vp_nar .byte ((v >>> ((iz 24) &&& 31)).toInt8.toInt32))) (t9 + 1) (vp_nar .byte ((v >>> ((iz 16) &&& 31)).toInt8.toInt32))) ((t9 + 1) + 1) (vp_nar .byte ((v >>> ((iz 8) &&& 31)).toInt8.toInt32))))))] := hD
            refine lv_aload_n hX_ hB_ dX9_feed_97 rfl (lv_at hl 2 rfl) ?_
            refine lv_dup hX_ hB_ dX9_feed_98 rfl ?_
            refine va_get (D := G.1) (ci := 7) (v := .int (iz ((t9 + 1) + 1))) (C := RX9) (T := TX9) (N := 33) hX_ hB_ hts hi_X9_feed_X9 hown hK.1 hP 0 rfl rfl 4 (by decide) (hts _ hw_X9_feed_afabec) (fun _ h9 => h9) rfl dX9_feed_99 ?_
            refine zk_iconst hX_ hB_ dX9_feed_102 ?_
            refine zk_iadd hX_ hB_ dX9_feed_103 ?_
            refine va_put (D := G.1) (ci := 7) (v := .int (iz (((t9 + 1) + 1) + 1))) (ty := .int) (C := RX9) (T := TX9) (N := 33) hX_ hB_ hts hi_X9_feed_X9 tyX9 tyX9_ok nmX9 hown hK.1 hP hD hS 0 rfl rfl 4 (by decide) (hts _ hw_X9_feed_afabec) (fun _ h9 => h9) rfl (by decide +kernel) rfl rfl (Nat.le_of_ble_eq_true rfl) dX9_feed_104 (fun H locs hP hD hS => ?_)
            have hP : va_P G.1 vwCl [(mo, .inr (7, .int (iz 0) :: .ref bsA :: .int (iz tw) :: .ref tpA :: .int (iz (((t9 + 1) + 1) + 1)) :: .int (iz sz) :: .int (iz at_) :: .int (zb iw) :: .ref loA :: .ref hiA :: .long sl :: .long sh :: .ref toA :: .ref mnA :: .ref dyA :: .int (iz sn) :: .ref frA :: .ref t2A :: .ref faA :: .int (iz dn) :: .int (zb iso) :: .ref akA :: .int (iz am) :: .int (iz wr) :: .ref paA :: .ref ofA :: .ref seA :: .ref ecA :: .int (iz em) :: .ref nmA :: .int (iz bst) :: .int (iz bmn) :: .long (lz bsm) :: [])), (tpA, .inl (G.2 1, 200, .inl (rv (us (us (us tq t9 (vp_nar .byte ((v >>> ((iz 24) &&& 31)).toInt8.toInt32))) (t9 + 1) (vp_nar .byte ((v >>> ((iz 16) &&& 31)).toInt8.toInt32))) ((t9 + 1) + 1) (vp_nar .byte ((v >>> ((iz 8) &&& 31)).toInt8.toInt32))))))] _ := hP
            have hD : va_D A [(mo, .inr (7, .int (iz 0) :: .ref bsA :: .int (iz tw) :: .ref tpA :: .int (iz (((t9 + 1) + 1) + 1)) :: .int (iz sz) :: .int (iz at_) :: .int (zb iw) :: .ref loA :: .ref hiA :: .long sl :: .long sh :: .ref toA :: .ref mnA :: .ref dyA :: .int (iz sn) :: .ref frA :: .ref t2A :: .ref faA :: .int (iz dn) :: .int (zb iso) :: .ref akA :: .int (iz am) :: .int (iz wr) :: .ref paA :: .ref ofA :: .ref seA :: .ref ecA :: .int (iz em) :: .ref nmA :: .int (iz bst) :: .int (iz bmn) :: .long (lz bsm) :: [])), (tpA, .inl (G.2 1, 200, .inl (rv (us (us (us tq t9 (vp_nar .byte ((v >>> ((iz 24) &&& 31)).toInt8.toInt32))) (t9 + 1) (vp_nar .byte ((v >>> ((iz 16) &&& 31)).toInt8.toInt32))) ((t9 + 1) + 1) (vp_nar .byte ((v >>> ((iz 8) &&& 31)).toInt8.toInt32))))))] := hD
            refine lv_iinc (v := (iz 0)) (lv' := [(8, .int (iz 0)), (7, .int v), (0, .ref mo), (1, .int a0), (2, .int a1), (3, .int a2), (4, .int a3), (5, .int a4), (6, .int (iz w))]) hX_ hB_ dX9_feed_107 hl (k := 0) rfl (by decide) (by decide) rfl (fun ls hl => ?_)
            refine lv_goto (tgt := 77) hX_ hB_ dX9_feed_110 (by decide) ?_
            refine lv_iload hX_ hB_ dX9_feed_77 (lv_at hl 0 rfl) ?_
            refine zk_if_lt (tgt := 113) hX_ hB_ (by omega) dX9_feed_79 (by decide) (fun c_79 => absurd c_79 (by decide)) (fun c_79 => ?_)
            refine lv_aload_n hX_ hB_ dX9_feed_82 rfl (lv_at hl 2 rfl) ?_
            refine va_get (D := G.1) (ci := 7) (v := .ref tpA) (C := RX9) (T := TX9) (N := 33) hX_ hB_ hts hi_X9_feed_X9 hown hK.1 hP 0 rfl rfl 3 (by decide) (hts _ hw_X9_feed_c83589) (fun _ h9 => h9) rfl dX9_feed_83 ?_
            refine lv_aload_n hX_ hB_ dX9_feed_86 rfl (lv_at hl 2 rfl) ?_
            refine va_get (D := G.1) (ci := 7) (v := .int (iz (((t9 + 1) + 1) + 1))) (C := RX9) (T := TX9) (N := 33) hX_ hB_ hts hi_X9_feed_X9 hown hK.1 hP 0 rfl rfl 4 (by decide) (hts _ hw_X9_feed_afabec) (fun _ h9 => h9) rfl dX9_feed_87 ?_
            refine lv_iload hX_ hB_ dX9_feed_90 (lv_at hl 1 rfl) ?_
            refine lv_iload hX_ hB_ dX9_feed_92 (lv_at hl 0 rfl) ?_
            refine lv_ishr hX_ hB_ dX9_feed_94 ?_
            refine lv_i2b hX_ hB_ dX9_feed_95 rfl ?_
            refine zk_bastr hX_ hB_ hK.1 hP hD hS 1 1 rfl rfl (by omega) (by decide) dX9_feed_96 (fun H locs hP hD hS => ?_)
            have hP : va_P G.1 vwCl [(mo, .inr (7, .int (iz 0) :: .ref bsA :: .int (iz tw) :: .ref tpA :: .int (iz (((t9 + 1) + 1) + 1)) :: .int (iz sz) :: .int (iz at_) :: .int (zb iw) :: .ref loA :: .ref hiA :: .long sl :: .long sh :: .ref toA :: .ref mnA :: .ref dyA :: .int (iz sn) :: .ref frA :: .ref t2A :: .ref faA :: .int (iz dn) :: .int (zb iso) :: .ref akA :: .int (iz am) :: .int (iz wr) :: .ref paA :: .ref ofA :: .ref seA :: .ref ecA :: .int (iz em) :: .ref nmA :: .int (iz bst) :: .int (iz bmn) :: .long (lz bsm) :: [])), (tpA, .inl (G.2 1, 200, .inl (rv (us (us (us (us tq t9 (vp_nar .byte ((v >>> ((iz 24) &&& 31)).toInt8.toInt32))) (t9 + 1) (vp_nar .byte ((v >>> ((iz 16) &&& 31)).toInt8.toInt32))) ((t9 + 1) + 1) (vp_nar .byte ((v >>> ((iz 8) &&& 31)).toInt8.toInt32))) (((t9 + 1) + 1) + 1) (vp_nar .byte ((v >>> ((iz 0) &&& 31)).toInt8.toInt32))))))] _ := hP
            have hD : va_D A [(mo, .inr (7, .int (iz 0) :: .ref bsA :: .int (iz tw) :: .ref tpA :: .int (iz (((t9 + 1) + 1) + 1)) :: .int (iz sz) :: .int (iz at_) :: .int (zb iw) :: .ref loA :: .ref hiA :: .long sl :: .long sh :: .ref toA :: .ref mnA :: .ref dyA :: .int (iz sn) :: .ref frA :: .ref t2A :: .ref faA :: .int (iz dn) :: .int (zb iso) :: .ref akA :: .int (iz am) :: .int (iz wr) :: .ref paA :: .ref ofA :: .ref seA :: .ref ecA :: .int (iz em) :: .ref nmA :: .int (iz bst) :: .int (iz bmn) :: .long (lz bsm) :: [])), (tpA, .inl (G.2 1, 200, .inl (rv (us (us (us (us tq t9 (vp_nar .byte ((v >>> ((iz 24) &&& 31)).toInt8.toInt32))) (t9 + 1) (vp_nar .byte ((v >>> ((iz 16) &&& 31)).toInt8.toInt32))) ((t9 + 1) + 1) (vp_nar .byte ((v >>> ((iz 8) &&& 31)).toInt8.toInt32))) (((t9 + 1) + 1) + 1) (vp_nar .byte ((v >>> ((iz 0) &&& 31)).toInt8.toInt32))))))] := hD
            refine lv_aload_n hX_ hB_ dX9_feed_97 rfl (lv_at hl 2 rfl) ?_
            refine lv_dup hX_ hB_ dX9_feed_98 rfl ?_
            refine va_get (D := G.1) (ci := 7) (v := .int (iz (((t9 + 1) + 1) + 1))) (C := RX9) (T := TX9) (N := 33) hX_ hB_ hts hi_X9_feed_X9 hown hK.1 hP 0 rfl rfl 4 (by decide) (hts _ hw_X9_feed_afabec) (fun _ h9 => h9) rfl dX9_feed_99 ?_
            refine zk_iconst hX_ hB_ dX9_feed_102 ?_
            refine zk_iadd hX_ hB_ dX9_feed_103 ?_
            refine va_put (D := G.1) (ci := 7) (v := .int (iz ((((t9 + 1) + 1) + 1) + 1))) (ty := .int) (C := RX9) (T := TX9) (N := 33) hX_ hB_ hts hi_X9_feed_X9 tyX9 tyX9_ok nmX9 hown hK.1 hP hD hS 0 rfl rfl 4 (by decide) (hts _ hw_X9_feed_afabec) (fun _ h9 => h9) rfl (by decide +kernel) rfl rfl (Nat.le_of_ble_eq_true rfl) dX9_feed_104 (fun H locs hP hD hS => ?_)
            have hP : va_P G.1 vwCl [(mo, .inr (7, .int (iz 0) :: .ref bsA :: .int (iz tw) :: .ref tpA :: .int (iz ((((t9 + 1) + 1) + 1) + 1)) :: .int (iz sz) :: .int (iz at_) :: .int (zb iw) :: .ref loA :: .ref hiA :: .long sl :: .long sh :: .ref toA :: .ref mnA :: .ref dyA :: .int (iz sn) :: .ref frA :: .ref t2A :: .ref faA :: .int (iz dn) :: .int (zb iso) :: .ref akA :: .int (iz am) :: .int (iz wr) :: .ref paA :: .ref ofA :: .ref seA :: .ref ecA :: .int (iz em) :: .ref nmA :: .int (iz bst) :: .int (iz bmn) :: .long (lz bsm) :: [])), (tpA, .inl (G.2 1, 200, .inl (rv (us (us (us (us tq t9 (vp_nar .byte ((v >>> ((iz 24) &&& 31)).toInt8.toInt32))) (t9 + 1) (vp_nar .byte ((v >>> ((iz 16) &&& 31)).toInt8.toInt32))) ((t9 + 1) + 1) (vp_nar .byte ((v >>> ((iz 8) &&& 31)).toInt8.toInt32))) (((t9 + 1) + 1) + 1) (vp_nar .byte ((v >>> ((iz 0) &&& 31)).toInt8.toInt32))))))] _ := hP
            have hD : va_D A [(mo, .inr (7, .int (iz 0) :: .ref bsA :: .int (iz tw) :: .ref tpA :: .int (iz ((((t9 + 1) + 1) + 1) + 1)) :: .int (iz sz) :: .int (iz at_) :: .int (zb iw) :: .ref loA :: .ref hiA :: .long sl :: .long sh :: .ref toA :: .ref mnA :: .ref dyA :: .int (iz sn) :: .ref frA :: .ref t2A :: .ref faA :: .int (iz dn) :: .int (zb iso) :: .ref akA :: .int (iz am) :: .int (iz wr) :: .ref paA :: .ref ofA :: .ref seA :: .ref ecA :: .int (iz em) :: .ref nmA :: .int (iz bst) :: .int (iz bmn) :: .long (lz bsm) :: [])), (tpA, .inl (G.2 1, 200, .inl (rv (us (us (us (us tq t9 (vp_nar .byte ((v >>> ((iz 24) &&& 31)).toInt8.toInt32))) (t9 + 1) (vp_nar .byte ((v >>> ((iz 16) &&& 31)).toInt8.toInt32))) ((t9 + 1) + 1) (vp_nar .byte ((v >>> ((iz 8) &&& 31)).toInt8.toInt32))) (((t9 + 1) + 1) + 1) (vp_nar .byte ((v >>> ((iz 0) &&& 31)).toInt8.toInt32))))))] := hD
            refine lv_iinc (v := (iz (-8))) (lv' := [(8, .int (iz (-8))), (7, .int v), (0, .ref mo), (1, .int a0), (2, .int a1), (3, .int a2), (4, .int a3), (5, .int a4), (6, .int (iz w))]) hX_ hB_ dX9_feed_107 hl (k := 0) rfl (by decide) (by decide) rfl (fun ls hl => ?_)
            refine lv_goto (tgt := 77) hX_ hB_ dX9_feed_110 (by decide) ?_
            refine lv_iload hX_ hB_ dX9_feed_77 (lv_at hl 0 rfl) ?_
            refine zk_if_lt (tgt := 113) hX_ hB_ (by omega) dX9_feed_79 (by decide) (fun c_79 => ?_) (fun c_79 => absurd c_79 (by decide))
            refine lv_iinc (v := (iz (w + 1))) (lv' := [(6, .int (iz (w + 1))), (8, .int (iz (-8))), (7, .int v), (0, .ref mo), (1, .int a0), (2, .int a1), (3, .int a2), (4, .int a3), (5, .int a4)]) hX_ hB_ dX9_feed_113 hl (k := 8) rfl (iz_add _ _) (by decide) rfl (fun ls hl => ?_)
            refine lv_goto (tgt := 23) hX_ hB_ dX9_feed_116 (by decide) ?_
            exact ih_23 (w + 1) (us (us (us (us tq t9 (vp_nar .byte ((v >>> ((iz 24) &&& 31)).toInt8.toInt32))) (t9 + 1) (vp_nar .byte ((v >>> ((iz 16) &&& 31)).toInt8.toInt32))) ((t9 + 1) + 1) (vp_nar .byte ((v >>> ((iz 8) &&& 31)).toInt8.toInt32))) (((t9 + 1) + 1) + 1) (vp_nar .byte ((v >>> ((iz 0) &&& 31)).toInt8.toInt32))) ((((t9 + 1) + 1) + 1) + 1) (by omega) (by omega) (by rw [show (w + 1).toNat = w.toNat + 1 from by omega]; show RT _ (put4 (fdN bt td _ w.toNat) (td + 4 * (w.toNat : Int)) _); rw [Int.toNat_of_nonneg hw0.1, ← ht9, ← hv]; exact RT_put (RT_put (RT_put (RT_put hrw _ _ _) _ _ _) _ _ _) _ _ _) (by omega) _ _ hP hD hS ls (lv_sub hl [3, 4, 5, 6, 7, 8, 0] rfl)
          refine lv_iload hX_ hB_ dX9_feed_29 (lv_at hl 6 rfl) ?_
          refine zk_if_ne (tgt := 38) hX_ hB_ (by omega) dX9_feed_31 (by decide) (fun c_31 => ?_) (fun c_31 => ?_)
          · skip
            refine lv_iload hX_ hB_ dX9_feed_38 (lv_at hl 6 rfl) ?_
            refine zk_iconst hX_ hB_ dX9_feed_40 ?_
            refine zk_icmp_ne (tgt := 48) hX_ hB_ (by omega) (by omega) dX9_feed_41 (by decide) (fun c_41 => ?_) (fun c_41 => ?_)
            · skip
              refine lv_iload hX_ hB_ dX9_feed_48 (lv_at hl 6 rfl) ?_
              refine zk_iconst hX_ hB_ dX9_feed_50 ?_
              refine zk_icmp_ne (tgt := 58) hX_ hB_ (by omega) (by omega) dX9_feed_51 (by decide) (fun c_51 => ?_) (fun c_51 => ?_)
              · skip
                refine lv_iload hX_ hB_ dX9_feed_58 (lv_at hl 6 rfl) ?_
                refine zk_iconst hX_ hB_ dX9_feed_60 ?_
                refine zk_icmp_ne (tgt := 69) hX_ hB_ (by omega) (by omega) dX9_feed_61 (by decide) (fun c_61 => ?_) (fun c_61 => ?_)
                · skip
                  refine lv_iload hX_ hB_ dX9_feed_69 (lv_at hl 5 rfl) ?_
                  exact join_71 a4 (by unfold a5; rw [if_neg c_31, if_neg c_41, if_neg c_51, if_neg c_61]) _ _ hP hD hS ls (lv_sub hl [0, 1, 2, 3, 4, 5, 6] rfl)
                · skip
                  refine lv_iload hX_ hB_ dX9_feed_64 (lv_at hl 4 rfl) ?_
                  refine lv_goto (tgt := 71) hX_ hB_ dX9_feed_66 (by decide) ?_
                  exact join_71 a3 (by unfold a5; rw [if_neg c_31, if_neg c_41, if_neg c_51, if_pos c_61]) _ _ hP hD hS ls (lv_sub hl [0, 1, 2, 3, 4, 5, 6] rfl)
              · skip
                refine lv_iload_n hX_ hB_ dX9_feed_54 rfl (lv_at hl 3 rfl) ?_
                refine lv_goto (tgt := 71) hX_ hB_ dX9_feed_55 (by decide) ?_
                exact join_71 a2 (by unfold a5; rw [if_neg c_31, if_neg c_41, if_pos c_51]) _ _ hP hD hS ls (lv_sub hl [0, 1, 2, 3, 4, 5, 6] rfl)
            · skip
              refine lv_iload_n hX_ hB_ dX9_feed_44 rfl (lv_at hl 2 rfl) ?_
              refine lv_goto (tgt := 71) hX_ hB_ dX9_feed_45 (by decide) ?_
              exact join_71 a1 (by unfold a5; rw [if_neg c_31, if_pos c_41]) _ _ hP hD hS ls (lv_sub hl [0, 1, 2, 3, 4, 5, 6] rfl)
          · skip
            refine lv_iload_n hX_ hB_ dX9_feed_34 rfl (lv_at hl 1 rfl) ?_
            refine lv_goto (tgt := 71) hX_ hB_ dX9_feed_35 (by decide) ?_
            exact join_71 a0 (by unfold a5; rw [if_pos c_31]) _ _ hP hD hS ls (lv_sub hl [0, 1, 2, 3, 4, 5, 6] rfl)
    exact loop_23 _ 0 tp td (by omega) (by omega) (by exact hrt) (Nat.lt_succ_self _) _ _ hP hD hS ls (lv_sub hl [1, 2, 3, 4, 5, 6, 0] rfl)
  · skip
    refine zk_iconst hX_ hB_ dX9_feed_18 ?_
    exact fin_i (wf := (fun u : Int × (Int → Int32) => match u with | (td2, tp2) => [(mo, .inr (7, .int (iz 0) :: .ref bsA :: .int (iz tw) :: .ref tpA :: .int (iz td2) :: .int (iz sz) :: .int (iz at_) :: .int (zb iw) :: .ref loA :: .ref hiA :: .long sl :: .long sh :: .ref toA :: .ref mnA :: .ref dyA :: .int (iz sn) :: .ref frA :: .ref t2A :: .ref faA :: .int (iz dn) :: .int (zb iso) :: .ref akA :: .int (iz am) :: .int (iz wr) :: .ref paA :: .ref ofA :: .ref seA :: .ref ecA :: .int (iz em) :: .ref nmA :: .int (iz bst) :: .int (iz bmn) :: .long (lz bsm) :: [])), (tpA, .inl (G.2 1, 200, .inl (rv tp2)))])) (td, tp) F rfl hP hD hK hS (by decide) (by decide) dX9_feed_19 (by exact ⟨by rw [if_neg (by omega)], fun q => absurd q (by omega), fun _ => ⟨rfl, rfl⟩⟩)
