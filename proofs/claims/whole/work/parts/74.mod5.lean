
theorem us_us {α : Type} {g : Int → α} {i : Int} {v w : α} : us (us g i v) i w = us g i w := by
  funext j
  unfold us
  split <;> rfl
theorem lshr_bit (x : Int64) {v : Int} (h0 : 0 ≤ v) (h1 : v < 64) : ((x >>> ((iz v).toInt64 &&& 63)) &&& lz 1 = lz 1) ↔ x.toBitVec.getLsbD v.toNat = true := by
  have hk : v.toNat < 64 := by omega
  have e2 : (x >>> ((iz v).toInt64 &&& 63)).toBitVec = x.toBitVec.sshiftRight v.toNat := by
    have e := amt_s v.toNat hk
    rw [Int.toNat_of_nonneg h0] at e
    rw [Int64.toBitVec_shiftRight, e]
    show x.toBitVec.sshiftRight (BitVec.ofNat 64 v.toNat).toNat = _
    rw [BitVec.toNat_ofNat, Nat.mod_eq_of_lt (by omega)]
  constructor
  · intro h
    have h2 := congrArg (fun y : Int64 => y.toBitVec.getLsbD 0) h
    simp only [Int64.toBitVec_and, BitVec.getLsbD_and, e2, BitVec.getLsbD_sshiftRight] at h2
    have h3 : (lz 1).toBitVec.getLsbD 0 = true := by decide
    rw [h3] at h2
    simp at h2
    have h4 := h2
    first | exact h4 | exact h4.2 | (simp [hk] at h4; exact h4) | (split at h4 <;> first | exact h4 | omega)
  · intro h
    apply Int64.toBitVec_inj.mp
    apply BitVec.eq_of_getLsbD_eq
    intro i hi
    rw [Int64.toBitVec_and, BitVec.getLsbD_and, e2]
    by_cases q : i = 0
    · subst q
      have h3 : (lz 1).toBitVec.getLsbD 0 = true := by decide
      rw [h3, Bool.and_true, BitVec.getLsbD_sshiftRight]
      simp [h, hk]
    · have h3 : ∀ j : Nat, j < 64 → ¬ j = 0 → (lz 1).toBitVec.getLsbD j = false := by decide
      rw [h3 i hi q, Bool.and_false]
theorem sgn_30 {d k b : Int} (hd : 1152000 ≤ d ∧ d ≤ 1583999) (hb : 0 ≤ b ∧ b < 4400) (hk : 0 ≤ k ∧ k ≤ 10) : 0 ≤ sgn d k b ∧ sgn d k b < 31 := by
  unfold sgn
  repeat' split
  all_goals omega
/-- the days of a text: every sign's value is among those that it leaves -/
def fitG (f : SS) (b d : Int) : Nat → Bool
  | 0 => true
  | n + 1 => fitG f b d n && f (n : Int) (sgn d (n : Int) b)
def fitF (f : SS) (b d : Int) : Bool := fitG f b d 11
theorem fitG_z {f : SS} {b d i : Int} (h : 0 ≤ i) : fitG f b d (i + 1).toNat = (fitG f b d i.toNat && f i (sgn d i b)) := by
  rw [show (i + 1).toNat = i.toNat + 1 from by omega]
  show (fitG f b d i.toNat && f (i.toNat : Int) (sgn d (i.toNat : Int) b)) = _
  rw [Int.toNat_of_nonneg h]
theorem fitG_no {f : SS} {b d : Int} {n : Nat} : ∀ {m : Nat}, n ≤ m → fitG f b d n = false → fitG f b d m = false
  | 0, h, e => by
    have : n = 0 := by omega
    subst this
    exact e
  | m + 1, h, e => by
    by_cases q : n = m + 1
    · subst q
      exact e
    · unfold fitG
      rw [fitG_no (m := m) (by omega) e]
      rfl
theorem fitS_F {st : Int → Int32} {f : SS} (h : RSS st f) {b d : Int} (hd : 1152000 ≤ d ∧ d ≤ 1583999) (hb : 0 ≤ b ∧ b < 4400) : ∀ n : Nat, n ≤ 11 → fitU st b d n = fitG f b d n
  | 0, _ => rfl
  | n + 1, hn => by
    unfold fitU fitG
    have h1 := sgn_30 (k := (n : Int)) hd hb (by omega)
    rw [fitS_F h hd hb n (by omega), h (n : Int) (by omega) (by omega) _ h1.1 h1.2]
/-- the list of a text's days -/
def nlF (f : SS) (b : Int) : List Int := fl (fitF f b) 1152000 432000
theorem nl_eq {st : Int → Int32} {f : SS} (h : RSS st f) {b : Int} (hb : 0 ≤ b ∧ b < 4400) : fl (fitS st b) 1152000 432000 = nlF f b :=
  fl_cong (fun j hj => fitS_F h (by omega) hb 11 (Nat.le_refl _))
def RML (lo hi : Int → Int64) (s : Int) (f : SS) : Prop := ∀ k : Int, 0 ≤ k → k < 11 → RM (lo (11 * s + k)) (hi (11 * s + k)) (f k)
theorem RML_nar {lo hi : Int → Int64} {s k : Int} {f : SS} {x y : Int64} {h : Int → Bool} (h1 : RML lo hi s f) (h2 : RM x y h) : RML (us lo (11 * s + k) (lo (11 * s + k) &&& x)) (us hi (11 * s + k) (hi (11 * s + k) &&& y)) s (nar f k h) := by
  intro j j0 j1
  unfold us nar
  by_cases e : j = k
  · subst e
    rw [if_pos rfl, if_pos rfl]
    refine RM_cong (RM_and (h1 j j0 j1) h2) (fun v => ?_)
    rw [if_pos rfl]
  · rw [if_neg (by omega), if_neg (by omega)]
    refine RM_cong (h1 j j0 j1) (fun v => ?_)
    rw [if_neg e]
/-- the days row of the s-th stone holds the first 300 of a list -/
def FDs (dq : Int → Int) (s : Int) (L : List Int) : Prop := ∀ k : Nat, k < 300 → k < L.length → dq (300 * s + k) = L.getD k 0
theorem FDs_add {dq : Int → Int} {s v : Int} {L : List Int} (h : FDs dq s L) : FDs (us dq (300 * s + (L.length : Int)) v) s (L ++ [v]) := by
  intro k h1 h2
  rw [List.length_append] at h2
  unfold us
  by_cases e : k = L.length
  · subst e
    rw [if_pos rfl]
    simp [List.getD]
  · have h3 : k < L.length := by simp at h2; omega
    rw [if_neg (by omega), h k h1 h3]
    simp [List.getD, List.getElem?_append_left h3]
theorem FDs_full {dq : Int → Int} {s v : Int} {L : List Int} (h : FDs dq s L) (hl : 300 ≤ L.length) : FDs dq s (L ++ [v]) := by
  intro k h1 h2
  have h3 : k < L.length := by omega
  rw [h k h1 h3]
  simp [List.getD, List.getElem?_append_left h3]
theorem fl_yes {f : Int → Bool} {d : Int} (h : 1152000 ≤ d) (hf : f d = true) : fl f 1152000 (d + 1 - 1152000).toNat = fl f 1152000 (d - 1152000).toNat ++ [d] := by
  rw [show (d + 1 - 1152000).toNat = (d - 1152000).toNat + 1 from by omega]
  show fl f 1152000 (d - 1152000).toNat ++ (if f (1152000 + ((d - 1152000).toNat : Int)) then _ else _) = _
  rw [show 1152000 + ((d - 1152000).toNat : Int) = d from by omega, hf]
  rfl
theorem fl_no {f : Int → Bool} {d : Int} (h : 1152000 ≤ d) (hf : f d = false) : fl f 1152000 (d + 1 - 1152000).toNat = fl f 1152000 (d - 1152000).toNat := by
  rw [show (d + 1 - 1152000).toNat = (d - 1152000).toNat + 1 from by omega]
  show fl f 1152000 (d - 1152000).toNat ++ (if f (1152000 + ((d - 1152000).toNat : Int)) then _ else _) = _
  rw [show 1152000 + ((d - 1152000).toNat : Int) = d from by omega, hf]
  exact List.append_nil _
theorem hw_X9_isAllowed_583840 : (.fieldLink RX9 21 "StoneDatesModel" "high" "[J" : Cond) ∈ wsX9_isAllowed := by decide +kernel
theorem hi_X9_isAllowed_X9 : ∀ w ∈ u_ws RX9 TX9 33, w ∈ wsX9_isAllowed := by decide +kernel
theorem hw_X9_isAllowed_dfa5d2 : (.fieldLink RX9 17 "StoneDatesModel" "low" "[J" : Cond) ∈ wsX9_isAllowed := by decide +kernel
set_option maxHeartbeats 4000000 in
set_option maxRecDepth 100000 in
theorem c_X9_isAllowed (l : Launch) (G : GG) (mo : Nat) (th : Int) (bsA : Nat) (tw : Int) (tpA : Nat) (td : Int) (sz : Int) (at_ : Int) (iw : Bool) (loA : Nat) (hiA : Nat) (sl : Int64) (sh : Int64) (toA : Nat) (mnA : Nat) (dyA : Nat) (sn : Int) (frA : Nat) (t2A : Nat) (faA : Nat) (dn : Int) (iso : Bool) (akA : Nat) (am : Int) (wr : Int) (paA : Nat) (ofA : Nat) (seA : Nat) (ecA : Nat) (em : Int) (nmA : Nat) (bst : Int) (bmn : Int) (bsm : Int) (lo : Int → Int64) (hi : Int → Int64) (s9 : Int) (k : Int) (v : Int) (hs : 0 ≤ s9 ∧ s9 < 30) (hk : 0 ≤ k ∧ k ≤ 10) (hv : 0 ≤ v ∧ v < 100) : Ci l yX9_isAllowed wsX9_isAllowed ({ frames := 0, cells := 0, slots := 0, locals := 0 }) G E0 [.ref mo, .int (iz s9), .int (iz k), .int (iz v)] [(mo, .inr (7, .int (iz th) :: .ref bsA :: .int (iz tw) :: .ref tpA :: .int (iz td) :: .int (iz sz) :: .int (iz at_) :: .int (zb iw) :: .ref loA :: .ref hiA :: .long sl :: .long sh :: .ref toA :: .ref mnA :: .ref dyA :: .int (iz sn) :: .ref frA :: .ref t2A :: .ref faA :: .int (iz dn) :: .int (zb iso) :: .ref akA :: .int (iz am) :: .int (iz wr) :: .ref paA :: .ref ofA :: .ref seA :: .ref ecA :: .int (iz em) :: .ref nmA :: .int (iz bst) :: .int (iz bmn) :: .long (lz bsm) :: [])), (loA, .inl (G.2 2, 341, .inr (.inl (rv lo)))), (hiA, .inl (G.2 2, 341, .inr (.inl (rv hi))))] 0 0 (fun _ : Unit => [(mo, .inr (7, .int (iz th) :: .ref bsA :: .int (iz tw) :: .ref tpA :: .int (iz td) :: .int (iz sz) :: .int (iz at_) :: .int (zb iw) :: .ref loA :: .ref hiA :: .long sl :: .long sh :: .ref toA :: .ref mnA :: .ref dyA :: .int (iz sn) :: .ref frA :: .ref t2A :: .ref faA :: .int (iz dn) :: .int (zb iso) :: .ref akA :: .int (iz am) :: .int (iz wr) :: .ref paA :: .ref ofA :: .ref seA :: .ref ecA :: .int (iz em) :: .ref nmA :: .int (iz bst) :: .int (iz bmn) :: .long (lz bsm) :: [])), (loA, .inl (G.2 2, 341, .inr (.inl (rv lo)))), (hiA, .inl (G.2 2, 341, .inr (.inl (rv hi))))]) (fun (r : Int32) (_ : Unit) => r = (zb (mbt (lo (11 * s9 + k)) (hi (11 * s9 + k)) v))) := by
  refine Ci_intro (cc := cX9_isAllowed) (maxL := 4) (ret := (some .boolean)) (by decide) rfl (Nat.le_of_ble_eq_true rfl) ?_
  intro p e s m below meth c A F hA hP hD hK hE ls hl
  have hX_ := F.1
  have hB_ := F.2.1
  have hts := F.2.2.2.2.2.1
  have hown := F.2.2.2.2.1
  have hml := F.2.2.2.1
  have hS : va_S A s.heap s.heap [] := va_S.rf
  have hl : lv_has ls 4 [(0, .ref mo), (1, .int (iz s9)), (2, .int (iz k)), (3, .int (iz v))] := hl
  refine lv_iload_n hX_ hB_ dX9_isAllowed_0 rfl (lv_at hl 3 rfl) ?_
  refine zk_bipush hX_ hB_ (by decide) dX9_isAllowed_1 ?_
  refine zk_icmp_ge (tgt := 34) hX_ hB_ (by omega) (by omega) dX9_isAllowed_3 (by decide) (fun c_3 => ?_) (fun c_3 => ?_)
  · skip
    refine lv_aload_n hX_ hB_ dX9_isAllowed_34 rfl (lv_at hl 0 rfl) ?_
    refine va_get (D := G.1) (ci := 7) (v := .ref hiA) (C := RX9) (T := TX9) (N := 33) hX_ hB_ hts hi_X9_isAllowed_X9 hown hK.1 hP 0 rfl rfl 9 (by decide) (hts _ hw_X9_isAllowed_583840) (fun _ h9 => h9) rfl dX9_isAllowed_35 ?_
    refine zk_bipush hX_ hB_ (by decide) dX9_isAllowed_38 ?_
    refine lv_iload_n hX_ hB_ dX9_isAllowed_40 rfl (lv_at hl 1 rfl) ?_
    refine zk_imul hX_ hB_ dX9_isAllowed_41 ?_
    refine lv_iload_n hX_ hB_ dX9_isAllowed_42 rfl (lv_at hl 2 rfl) ?_
    refine zk_iadd hX_ hB_ dX9_isAllowed_43 ?_
    refine zk_lald hX_ hB_ hK.1 hP 2 2 rfl rfl (by omega) (by decide) dX9_isAllowed_44 ?_
    refine lv_iload_n hX_ hB_ dX9_isAllowed_45 rfl (lv_at hl 3 rfl) ?_
    refine zk_bipush hX_ hB_ (by decide) dX9_isAllowed_46 ?_
    refine zk_isub hX_ hB_ dX9_isAllowed_48 ?_
    refine lv_lshr hX_ hB_ dX9_isAllowed_49 rfl ?_
    refine zk_lconst hX_ hB_ 1 (by decide) dX9_isAllowed_50 ?_
    refine lv_land hX_ hB_ dX9_isAllowed_51 ?_
    refine zk_lconst hX_ hB_ 1 (by decide) dX9_isAllowed_52 ?_
    refine W.lcmp hX_ hB_ dX9_isAllowed_53 ?_
    refine zk_lc_ne (tgt := 61) hX_ hB_ dX9_isAllowed_54 (by decide) (fun c_54 => ?_) (fun c_54 => ?_)
    · skip
      refine zk_iconst hX_ hB_ dX9_isAllowed_61 ?_
      refine zk_topi (y := (zb false)) rfl ?_
      exact fin_i (wf := (fun _ : Unit => [(mo, .inr (7, .int (iz th) :: .ref bsA :: .int (iz tw) :: .ref tpA :: .int (iz td) :: .int (iz sz) :: .int (iz at_) :: .int (zb iw) :: .ref loA :: .ref hiA :: .long sl :: .long sh :: .ref toA :: .ref mnA :: .ref dyA :: .int (iz sn) :: .ref frA :: .ref t2A :: .ref faA :: .int (iz dn) :: .int (zb iso) :: .ref akA :: .int (iz am) :: .int (iz wr) :: .ref paA :: .ref ofA :: .ref seA :: .ref ecA :: .int (iz em) :: .ref nmA :: .int (iz bst) :: .int (iz bmn) :: .long (lz bsm) :: [])), (loA, .inl (G.2 2, 341, .inr (.inl (rv lo)))), (hiA, .inl (G.2 2, 341, .inr (.inl (rv hi))))])) () F (zb_nar _) hP hD hK hS (by decide) (by decide) dX9_isAllowed_62 (by refine congrArg zb ?_; unfold mbt; rw [if_neg (by omega)]; exact (Bool.eq_false_iff.mpr (fun q => c_54 ((lshr_bit _ (by omega) (by omega)).mpr q))).symm)
    · skip
      refine zk_iconst hX_ hB_ dX9_isAllowed_57 ?_
      refine zk_topi (y := (zb true)) rfl ?_
      refine lv_goto (tgt := 62) hX_ hB_ dX9_isAllowed_58 (by decide) ?_
      exact fin_i (wf := (fun _ : Unit => [(mo, .inr (7, .int (iz th) :: .ref bsA :: .int (iz tw) :: .ref tpA :: .int (iz td) :: .int (iz sz) :: .int (iz at_) :: .int (zb iw) :: .ref loA :: .ref hiA :: .long sl :: .long sh :: .ref toA :: .ref mnA :: .ref dyA :: .int (iz sn) :: .ref frA :: .ref t2A :: .ref faA :: .int (iz dn) :: .int (zb iso) :: .ref akA :: .int (iz am) :: .int (iz wr) :: .ref paA :: .ref ofA :: .ref seA :: .ref ecA :: .int (iz em) :: .ref nmA :: .int (iz bst) :: .int (iz bmn) :: .long (lz bsm) :: [])), (loA, .inl (G.2 2, 341, .inr (.inl (rv lo)))), (hiA, .inl (G.2 2, 341, .inr (.inl (rv hi))))])) () F (zb_nar _) hP hD hK hS (by decide) (by decide) dX9_isAllowed_62 (by refine congrArg zb ?_; unfold mbt; rw [if_neg (by omega)]; exact ((lshr_bit _ (by omega) (by omega)).mp c_54).symm)
  · skip
    refine lv_aload_n hX_ hB_ dX9_isAllowed_6 rfl (lv_at hl 0 rfl) ?_
    refine va_get (D := G.1) (ci := 7) (v := .ref loA) (C := RX9) (T := TX9) (N := 33) hX_ hB_ hts hi_X9_isAllowed_X9 hown hK.1 hP 0 rfl rfl 8 (by decide) (hts _ hw_X9_isAllowed_dfa5d2) (fun _ h9 => h9) rfl dX9_isAllowed_7 ?_
    refine zk_bipush hX_ hB_ (by decide) dX9_isAllowed_10 ?_
    refine lv_iload_n hX_ hB_ dX9_isAllowed_12 rfl (lv_at hl 1 rfl) ?_
    refine zk_imul hX_ hB_ dX9_isAllowed_13 ?_
    refine lv_iload_n hX_ hB_ dX9_isAllowed_14 rfl (lv_at hl 2 rfl) ?_
    refine zk_iadd hX_ hB_ dX9_isAllowed_15 ?_
    refine zk_lald hX_ hB_ hK.1 hP 1 2 rfl rfl (by omega) (by decide) dX9_isAllowed_16 ?_
    refine lv_iload_n hX_ hB_ dX9_isAllowed_17 rfl (lv_at hl 3 rfl) ?_
    refine lv_lshr hX_ hB_ dX9_isAllowed_18 rfl ?_
    refine zk_lconst hX_ hB_ 1 (by decide) dX9_isAllowed_19 ?_
    refine lv_land hX_ hB_ dX9_isAllowed_20 ?_
    refine zk_lconst hX_ hB_ 1 (by decide) dX9_isAllowed_21 ?_
    refine W.lcmp hX_ hB_ dX9_isAllowed_22 ?_
    refine zk_lc_ne (tgt := 30) hX_ hB_ dX9_isAllowed_23 (by decide) (fun c_23 => ?_) (fun c_23 => ?_)
    · skip
      refine zk_iconst hX_ hB_ dX9_isAllowed_30 ?_
      refine zk_topi (y := (zb false)) rfl ?_
      refine lv_goto (tgt := 62) hX_ hB_ dX9_isAllowed_31 (by decide) ?_
      exact fin_i (wf := (fun _ : Unit => [(mo, .inr (7, .int (iz th) :: .ref bsA :: .int (iz tw) :: .ref tpA :: .int (iz td) :: .int (iz sz) :: .int (iz at_) :: .int (zb iw) :: .ref loA :: .ref hiA :: .long sl :: .long sh :: .ref toA :: .ref mnA :: .ref dyA :: .int (iz sn) :: .ref frA :: .ref t2A :: .ref faA :: .int (iz dn) :: .int (zb iso) :: .ref akA :: .int (iz am) :: .int (iz wr) :: .ref paA :: .ref ofA :: .ref seA :: .ref ecA :: .int (iz em) :: .ref nmA :: .int (iz bst) :: .int (iz bmn) :: .long (lz bsm) :: [])), (loA, .inl (G.2 2, 341, .inr (.inl (rv lo)))), (hiA, .inl (G.2 2, 341, .inr (.inl (rv hi))))])) () F (zb_nar _) hP hD hK hS (by decide) (by decide) dX9_isAllowed_62 (by refine congrArg zb ?_; unfold mbt; rw [if_pos (by omega)]; exact (Bool.eq_false_iff.mpr (fun q => c_23 ((lshr_bit _ (by omega) (by omega)).mpr q))).symm)
    · skip
      refine zk_iconst hX_ hB_ dX9_isAllowed_26 ?_
      refine zk_topi (y := (zb true)) rfl ?_
      refine lv_goto (tgt := 62) hX_ hB_ dX9_isAllowed_27 (by decide) ?_
      exact fin_i (wf := (fun _ : Unit => [(mo, .inr (7, .int (iz th) :: .ref bsA :: .int (iz tw) :: .ref tpA :: .int (iz td) :: .int (iz sz) :: .int (iz at_) :: .int (zb iw) :: .ref loA :: .ref hiA :: .long sl :: .long sh :: .ref toA :: .ref mnA :: .ref dyA :: .int (iz sn) :: .ref frA :: .ref t2A :: .ref faA :: .int (iz dn) :: .int (zb iso) :: .ref akA :: .int (iz am) :: .int (iz wr) :: .ref paA :: .ref ofA :: .ref seA :: .ref ecA :: .int (iz em) :: .ref nmA :: .int (iz bst) :: .int (iz bmn) :: .long (lz bsm) :: [])), (loA, .inl (G.2 2, 341, .inr (.inl (rv lo)))), (hiA, .inl (G.2 2, 341, .inr (.inl (rv hi))))])) () F (zb_nar _) hP hD hK hS (by decide) (by decide) dX9_isAllowed_62 (by refine congrArg zb ?_; unfold mbt; rw [if_pos (by omega)]; exact ((lshr_bit _ (by omega) (by omega)).mp c_23).symm)

theorem hw_X9_isFit_2e1a2b : (.fieldLink RX9 9 "StoneDatesModel" "bases" "[I" : Cond) ∈ wsX9_isFit := by decide +kernel
theorem hi_X9_isFit_X9 : ∀ w ∈ u_ws RX9 TX9 33, w ∈ wsX9_isFit := by decide +kernel
theorem hw_X9_isFit_734a77 : (.fieldLink RX9 24 "StoneDatesModel" "townOf" "[I" : Cond) ∈ wsX9_isFit := by decide +kernel
theorem mdv_X9_isAllowed : yX9_isAllowed.cls = RX9 ∧ yX9_isAllowed.cls ≠ "java/lang/invoke/MethodHandle" ∧ yX9_isAllowed.cls ≠ "java/lang/invoke/VarHandle" ∧ (parseMethodDescriptor yX9_isAllowed.desc).map (fun d => d.parameters.length) = some 3 := by decide +kernel
set_option maxHeartbeats 4000000 in
set_option maxRecDepth 100000 in
theorem c_X9_isFit (l : Launch) (G : GG) (mo : Nat) (th : Int) (bsA : Nat) (tw : Int) (tpA : Nat) (td : Int) (sz : Int) (at_ : Int) (iw : Bool) (loA : Nat) (hiA : Nat) (sl : Int64) (sh : Int64) (toA : Nat) (mnA : Nat) (dyA : Nat) (sn : Int) (frA : Nat) (t2A : Nat) (faA : Nat) (dn : Int) (iso : Bool) (akA : Nat) (am : Int) (wr : Int) (paA : Nat) (ofA : Nat) (seA : Nat) (ecA : Nat) (em : Int) (nmA : Nat) (bst : Int) (bmn : Int) (bsm : Int) (bs : Int → Int) (lo : Int → Int64) (hi : Int → Int64) (to : Int → Int) (f : SS) (s9 : Int) (d : Int) (hs : 0 ≤ s9 ∧ s9 < 30) (hto : 0 ≤ to s9 ∧ to s9 < 10) (hbs : 0 ≤ bs (to s9) ∧ bs (to s9) < 4400) (hrm : RML lo hi s9 f) (hd : 1152000 ≤ d ∧ d ≤ 1583999) : Ci l yX9_isFit wsX9_isFit ({ frames := 1, cells := 0, slots := 0, locals := 23 }) G E0 [.ref mo, .int (iz s9), .int (iz d)] [(mo, .inr (7, .int (iz th) :: .ref bsA :: .int (iz tw) :: .ref tpA :: .int (iz td) :: .int (iz sz) :: .int (iz at_) :: .int (zb iw) :: .ref loA :: .ref hiA :: .long sl :: .long sh :: .ref toA :: .ref mnA :: .ref dyA :: .int (iz sn) :: .ref frA :: .ref t2A :: .ref faA :: .int (iz dn) :: .int (zb iso) :: .ref akA :: .int (iz am) :: .int (iz wr) :: .ref paA :: .ref ofA :: .ref seA :: .ref ecA :: .int (iz em) :: .ref nmA :: .int (iz bst) :: .int (iz bmn) :: .long (lz bsm) :: [])), (bsA, .inl (G.2 0, 10, .inl (av bs))), (loA, .inl (G.2 2, 341, .inr (.inl (rv lo)))), (hiA, .inl (G.2 2, 341, .inr (.inl (rv hi)))), (toA, .inl (G.2 0, 30, .inl (av to)))] 0 0 (fun _ : Unit => [(mo, .inr (7, .int (iz th) :: .ref bsA :: .int (iz tw) :: .ref tpA :: .int (iz td) :: .int (iz sz) :: .int (iz at_) :: .int (zb iw) :: .ref loA :: .ref hiA :: .long sl :: .long sh :: .ref toA :: .ref mnA :: .ref dyA :: .int (iz sn) :: .ref frA :: .ref t2A :: .ref faA :: .int (iz dn) :: .int (zb iso) :: .ref akA :: .int (iz am) :: .int (iz wr) :: .ref paA :: .ref ofA :: .ref seA :: .ref ecA :: .int (iz em) :: .ref nmA :: .int (iz bst) :: .int (iz bmn) :: .long (lz bsm) :: [])), (bsA, .inl (G.2 0, 10, .inl (av bs))), (loA, .inl (G.2 2, 341, .inr (.inl (rv lo)))), (hiA, .inl (G.2 2, 341, .inr (.inl (rv hi)))), (toA, .inl (G.2 0, 30, .inl (av to)))]) (fun (r : Int32) (_ : Unit) => r = (zb (fitF f (bs (to s9)) d))) := by
  refine Ci_intro (cc := cX9_isFit) (maxL := 4) (ret := (some .boolean)) (by decide) rfl (Nat.le_of_ble_eq_true rfl) ?_
  intro p e s m below meth c A F hA hP hD hK hE ls hl
  have hX_ := F.1
  have hB_ := F.2.1
  have hts := F.2.2.2.2.2.1
  have hown := F.2.2.2.2.1
  have hml := F.2.2.2.1
  have hS : va_S A s.heap s.heap [] := va_S.rf
  have hl : lv_has ls 4 [(0, .ref mo), (1, .int (iz s9)), (2, .int (iz d))] := hl
  refine zk_iconst hX_ hB_ dX9_isFit_0 ?_
  refine lv_istore_n (lv' := [(3, .int (iz 0)), (0, .ref mo), (1, .int (iz s9)), (2, .int (iz d))]) hX_ hB_ dX9_isFit_1 rfl hl (by decide) rfl (fun ls hl => ?_)
  have loop_2 : ∀ (n_2 : Nat), ∀ (i : Int), (0 ≤ i ∧ i ≤ 10) → (fitG f (bs (to s9)) d i.toNat = true) → ((10 - i).toNat < n_2) → ∀ (H : Heap) (locs : List Loc), va_P G.1 vwCl [(mo, .inr (7, .int (iz th) :: .ref bsA :: .int (iz tw) :: .ref tpA :: .int (iz td) :: .int (iz sz) :: .int (iz at_) :: .int (zb iw) :: .ref loA :: .ref hiA :: .long sl :: .long sh :: .ref toA :: .ref mnA :: .ref dyA :: .int (iz sn) :: .ref frA :: .ref t2A :: .ref faA :: .int (iz dn) :: .int (zb iso) :: .ref akA :: .int (iz am) :: .int (iz wr) :: .ref paA :: .ref ofA :: .ref seA :: .ref ecA :: .int (iz em) :: .ref nmA :: .int (iz bst) :: .int (iz bmn) :: .long (lz bsm) :: [])), (bsA, .inl (G.2 0, 10, .inl (av bs))), (loA, .inl (G.2 2, 341, .inr (.inl (rv lo)))), (hiA, .inl (G.2 2, 341, .inr (.inl (rv hi)))), (toA, .inl (G.2 0, 30, .inl (av to)))] H → va_D A [(mo, .inr (7, .int (iz th) :: .ref bsA :: .int (iz tw) :: .ref tpA :: .int (iz td) :: .int (iz sz) :: .int (iz at_) :: .int (zb iw) :: .ref loA :: .ref hiA :: .long sl :: .long sh :: .ref toA :: .ref mnA :: .ref dyA :: .int (iz sn) :: .ref frA :: .ref t2A :: .ref faA :: .int (iz dn) :: .int (zb iso) :: .ref akA :: .int (iz am) :: .int (iz wr) :: .ref paA :: .ref ofA :: .ref seA :: .ref ecA :: .int (iz em) :: .ref nmA :: .int (iz bst) :: .int (iz bmn) :: .long (lz bsm) :: [])), (bsA, .inl (G.2 0, 10, .inl (av bs))), (loA, .inl (G.2 2, 341, .inr (.inl (rv lo)))), (hiA, .inl (G.2 2, 341, .inr (.inl (rv hi)))), (toA, .inl (G.2 0, 30, .inl (av to)))] → va_S A s.heap H locs → ∀ ls : Array Slot, lv_has ls 4 [(0, .ref mo), (1, .int (iz s9)), (2, .int (iz d)), (3, .int (iz i))] → W p l e ({ frames := 1, cells := 0, slots := 0, locals := 23 }) s m ([.ref mo, .int (iz s9), .int (iz d)] : List Value).toArray below meth c H locs 0 0 (MQ below (va_Qi (fun (r : Int32) (_ : Unit) => r = (zb (fitF f (bs (to s9)) d))) (fun u__ t__ => Pst G A ((fun _ : Unit => [(mo, .inr (7, .int (iz th) :: .ref bsA :: .int (iz tw) :: .ref tpA :: .int (iz td) :: .int (iz sz) :: .int (iz at_) :: .int (zb iw) :: .ref loA :: .ref hiA :: .long sl :: .long sh :: .ref toA :: .ref mnA :: .ref dyA :: .int (iz sn) :: .ref frA :: .ref t2A :: .ref faA :: .int (iz dn) :: .int (zb iso) :: .ref akA :: .int (iz am) :: .int (iz wr) :: .ref paA :: .ref ofA :: .ref seA :: .ref ecA :: .int (iz em) :: .ref nmA :: .int (iz bst) :: .int (iz bmn) :: .long (lz bsm) :: [])), (bsA, .inl (G.2 0, 10, .inl (av bs))), (loA, .inl (G.2 2, 341, .inr (.inl (rv lo)))), (hiA, .inl (G.2 2, 341, .inr (.inl (rv hi)))), (toA, .inl (G.2 0, 30, .inl (av to)))]) u__) t__) A) ([.ref mo, .int (iz s9), .int (iz d)] : List Value).toArray s 0 0 A) (F0 m 2 ls []) := by
    intro n_2
    induction n_2 with
    | zero =>
      intro i hi9 hf hm H locs hP hD hS ls hl
      exact absurd hm (Nat.not_lt_zero _)
    | succ n_2 ih_2 =>
      intro i hi9 hf hm H locs hP hD hS ls hl
      refine lv_iload_n hX_ hB_ dX9_isFit_2 rfl (lv_at hl 3 rfl) ?_
      refine zk_bipush hX_ hB_ (by decide) dX9_isFit_3 ?_
      refine zk_icmp_ge (tgt := 30) hX_ hB_ (by omega) (by omega) dX9_isFit_5 (by decide) (fun c_5 => ?_) (fun c_5 => ?_)
      · skip
        refine lv_aload_n hX_ hB_ dX9_isFit_30 rfl (lv_at hl 0 rfl) ?_
        refine lv_iload_n hX_ hB_ dX9_isFit_31 rfl (lv_at hl 1 rfl) ?_
        refine zk_bipush hX_ hB_ (by decide) dX9_isFit_32 ?_
        refine lv_iload_n hX_ hB_ dX9_isFit_34 rfl (lv_at hl 2 rfl) ?_
        refine lv_aload_n hX_ hB_ dX9_isFit_35 rfl (lv_at hl 0 rfl) ?_
        refine va_get (D := G.1) (ci := 7) (v := .ref bsA) (C := RX9) (T := TX9) (N := 33) hX_ hB_ hts hi_X9_isFit_X9 hown hK.1 hP 0 rfl rfl 1 (by decide) (hts _ hw_X9_isFit_2e1a2b) (fun _ h9 => h9) rfl dX9_isFit_36 ?_
        refine lv_aload_n hX_ hB_ dX9_isFit_39 rfl (lv_at hl 0 rfl) ?_
        refine va_get (D := G.1) (ci := 7) (v := .ref toA) (C := RX9) (T := TX9) (N := 33) hX_ hB_ hts hi_X9_isFit_X9 hown hK.1 hP 0 rfl rfl 12 (by decide) (hts _ hw_X9_isFit_734a77) (fun _ h9 => h9) rfl dX9_isFit_40 ?_
        refine lv_iload_n hX_ hB_ dX9_isFit_43 rfl (lv_at hl 1 rfl) ?_
        refine zk_iald hX_ hB_ hK.1 hP 4 0 rfl rfl (by omega) (by decide) dX9_isFit_44 ?_
        refine zk_iald hX_ hB_ hK.1 hP 1 0 rfl rfl (by omega) (by decide) dX9_isFit_45 ?_
        refine back_i (wr := [(mo, .inr (7, .int (iz th) :: .ref bsA :: .int (iz tw) :: .ref tpA :: .int (iz td) :: .int (iz sz) :: .int (iz at_) :: .int (zb iw) :: .ref loA :: .ref hiA :: .long sl :: .long sh :: .ref toA :: .ref mnA :: .ref dyA :: .int (iz sn) :: .ref frA :: .ref t2A :: .ref faA :: .int (iz dn) :: .int (zb iso) :: .ref akA :: .int (iz am) :: .int (iz wr) :: .ref paA :: .ref ofA :: .ref seA :: .ref ecA :: .int (iz em) :: .ref nmA :: .int (iz bst) :: .int (iz bmn) :: .long (lz bsm) :: [])), (bsA, .inl (G.2 0, 10, .inl (av bs))), (loA, .inl (G.2 2, 341, .inr (.inl (rv lo)))), (hiA, .inl (G.2 2, 341, .inr (.inl (rv hi)))), (toA, .inl (G.2 0, 30, .inl (av to)))]) (run_S (As := [.int (iz d), .int (iz (bs (to s9)))]) (rest := [.int (iz 10), .int (iz s9), .ref mo]) (wc := []) F (c_X9_moonOf l G d (bs (to s9)) (by omega) (by omega) _) ext0 gX9_isFit_X9_moonOf rfl rfl rfl mds_X9_moonOf ⟨Nat.le_of_ble_eq_true rfl, Nat.le_of_ble_eq_true rfl⟩ (pre_of ext0 hK hP hD hS hA trivial [] (by decide) rfl _) rfl hl.1 (Nat.le_of_ble_eq_true rfl) dX9_isFit_46 ⟨by decide, by decide⟩) hP hD hS hA [] [0, 1, 2, 3, 4] rfl rfl (by decide) (by decide) (fun r__ u__ H locs hw hP hD hS => ?_)
        subst hw
        have hP := hP.sub (ws' := [(mo, .inr (7, .int (iz th) :: .ref bsA :: .int (iz tw) :: .ref tpA :: .int (iz td) :: .int (iz sz) :: .int (iz at_) :: .int (zb iw) :: .ref loA :: .ref hiA :: .long sl :: .long sh :: .ref toA :: .ref mnA :: .ref dyA :: .int (iz sn) :: .ref frA :: .ref t2A :: .ref faA :: .int (iz dn) :: .int (zb iso) :: .ref akA :: .int (iz am) :: .int (iz wr) :: .ref paA :: .ref ofA :: .ref seA :: .ref ecA :: .int (iz em) :: .ref nmA :: .int (iz bst) :: .int (iz bmn) :: .long (lz bsm) :: [])), (bsA, .inl (G.2 0, 10, .inl (av bs))), (loA, .inl (G.2 2, 341, .inr (.inl (rv lo)))), (hiA, .inl (G.2 2, 341, .inr (.inl (rv hi)))), (toA, .inl (G.2 0, 30, .inl (av to)))]) [0, 1, 2, 3, 4] rfl
        have hD := hD.sub (ws' := [(mo, .inr (7, .int (iz th) :: .ref bsA :: .int (iz tw) :: .ref tpA :: .int (iz td) :: .int (iz sz) :: .int (iz at_) :: .int (zb iw) :: .ref loA :: .ref hiA :: .long sl :: .long sh :: .ref toA :: .ref mnA :: .ref dyA :: .int (iz sn) :: .ref frA :: .ref t2A :: .ref faA :: .int (iz dn) :: .int (zb iso) :: .ref akA :: .int (iz am) :: .int (iz wr) :: .ref paA :: .ref ofA :: .ref seA :: .ref ecA :: .int (iz em) :: .ref nmA :: .int (iz bst) :: .int (iz bmn) :: .long (lz bsm) :: [])), (bsA, .inl (G.2 0, 10, .inl (av bs))), (loA, .inl (G.2 2, 341, .inr (.inl (rv lo)))), (hiA, .inl (G.2 2, 341, .inr (.inl (rv hi)))), (toA, .inl (G.2 0, 30, .inl (av to)))]) [0, 1, 2, 3, 4] (by decide) rfl
        have hsg := sgn_30 (d := d) (k := 10) (b := (bs (to s9))) hd hbs (by omega)
        refine back_i (wr := [(bsA, .inl (G.2 0, 10, .inl (av bs))), (toA, .inl (G.2 0, 30, .inl (av to)))]) (run_V (As := [.int (iz s9), .int (iz 10), .int (iz (sgn d 10 (bs (to s9))))]) (rest := []) (wc := [(mo, .inr (7, .int (iz th) :: .ref bsA :: .int (iz tw) :: .ref tpA :: .int (iz td) :: .int (iz sz) :: .int (iz at_) :: .int (zb iw) :: .ref loA :: .ref hiA :: .long sl :: .long sh :: .ref toA :: .ref mnA :: .ref dyA :: .int (iz sn) :: .ref frA :: .ref t2A :: .ref faA :: .int (iz dn) :: .int (zb iso) :: .ref akA :: .int (iz am) :: .int (iz wr) :: .ref paA :: .ref ofA :: .ref seA :: .ref ecA :: .int (iz em) :: .ref nmA :: .int (iz bst) :: .int (iz bmn) :: .long (lz bsm) :: [])), (loA, .inl (G.2 2, 341, .inr (.inl (rv lo)))), (hiA, .inl (G.2 2, 341, .inr (.inl (rv hi))))]) F (c_X9_isAllowed l G mo th bsA tw tpA td sz at_ iw loA hiA sl sh toA mnA dyA sn frA t2A faA dn iso akA am wr paA ofA seA ecA em nmA bst bmn bsm lo hi s9 10 (sgn d 10 (bs (to s9))) (by omega) (by omega) (by omega) _) ext0 gX9_isFit_X9_isAllowed rfl rfl rfl mdv_X9_isAllowed ⟨Nat.le_of_ble_eq_true rfl, Nat.le_of_ble_eq_true rfl⟩ (va_recv hK.1 (hP.sub (ws' := [(mo, .inr (7, .int (iz th) :: .ref bsA :: .int (iz tw) :: .ref tpA :: .int (iz td) :: .int (iz sz) :: .int (iz at_) :: .int (zb iw) :: .ref loA :: .ref hiA :: .long sl :: .long sh :: .ref toA :: .ref mnA :: .ref dyA :: .int (iz sn) :: .ref frA :: .ref t2A :: .ref faA :: .int (iz dn) :: .int (zb iso) :: .ref akA :: .int (iz am) :: .int (iz wr) :: .ref paA :: .ref ofA :: .ref seA :: .ref ecA :: .int (iz em) :: .ref nmA :: .int (iz bst) :: .int (iz bmn) :: .long (lz bsm) :: [])), (loA, .inl (G.2 2, 341, .inr (.inl (rv lo)))), (hiA, .inl (G.2 2, 341, .inr (.inl (rv hi))))]) [0, 2, 3] rfl) (ci := 7) (q0 := 0) rfl rfl) (pre_of ext0 hK hP hD hS hA trivial [0, 2, 3] (by decide) rfl _) rfl hl.1 (Nat.le_of_ble_eq_true rfl) dX9_isFit_49 ⟨by decide, by decide⟩) hP hD hS hA [0, 2, 3] [1, 4] rfl rfl (by decide) (by decide) (fun r__ u__ H locs hw hP hD hS => ?_)
        subst hw
        have hP := hP.sub (ws' := [(mo, .inr (7, .int (iz th) :: .ref bsA :: .int (iz tw) :: .ref tpA :: .int (iz td) :: .int (iz sz) :: .int (iz at_) :: .int (zb iw) :: .ref loA :: .ref hiA :: .long sl :: .long sh :: .ref toA :: .ref mnA :: .ref dyA :: .int (iz sn) :: .ref frA :: .ref t2A :: .ref faA :: .int (iz dn) :: .int (zb iso) :: .ref akA :: .int (iz am) :: .int (iz wr) :: .ref paA :: .ref ofA :: .ref seA :: .ref ecA :: .int (iz em) :: .ref nmA :: .int (iz bst) :: .int (iz bmn) :: .long (lz bsm) :: [])), (bsA, .inl (G.2 0, 10, .inl (av bs))), (loA, .inl (G.2 2, 341, .inr (.inl (rv lo)))), (hiA, .inl (G.2 2, 341, .inr (.inl (rv hi)))), (toA, .inl (G.2 0, 30, .inl (av to)))]) [2, 0, 3, 4, 1] rfl
        have hD := hD.sub (ws' := [(mo, .inr (7, .int (iz th) :: .ref bsA :: .int (iz tw) :: .ref tpA :: .int (iz td) :: .int (iz sz) :: .int (iz at_) :: .int (zb iw) :: .ref loA :: .ref hiA :: .long sl :: .long sh :: .ref toA :: .ref mnA :: .ref dyA :: .int (iz sn) :: .ref frA :: .ref t2A :: .ref faA :: .int (iz dn) :: .int (zb iso) :: .ref akA :: .int (iz am) :: .int (iz wr) :: .ref paA :: .ref ofA :: .ref seA :: .ref ecA :: .int (iz em) :: .ref nmA :: .int (iz bst) :: .int (iz bmn) :: .long (lz bsm) :: [])), (bsA, .inl (G.2 0, 10, .inl (av bs))), (loA, .inl (G.2 2, 341, .inr (.inl (rv lo)))), (hiA, .inl (G.2 2, 341, .inr (.inl (rv hi)))), (toA, .inl (G.2 0, 30, .inl (av to)))]) [2, 0, 3, 4, 1] (by decide) rfl
        refine zk_topi (y := (zb (f 10 (sgn d 10 (bs (to s9)))))) (congrArg zb (hrm 10 (by omega) (by omega) _ (by omega) (by omega))) ?_
        exact fin_i (wf := (fun _ : Unit => [(mo, .inr (7, .int (iz th) :: .ref bsA :: .int (iz tw) :: .ref tpA :: .int (iz td) :: .int (iz sz) :: .int (iz at_) :: .int (zb iw) :: .ref loA :: .ref hiA :: .long sl :: .long sh :: .ref toA :: .ref mnA :: .ref dyA :: .int (iz sn) :: .ref frA :: .ref t2A :: .ref faA :: .int (iz dn) :: .int (zb iso) :: .ref akA :: .int (iz am) :: .int (iz wr) :: .ref paA :: .ref ofA :: .ref seA :: .ref ecA :: .int (iz em) :: .ref nmA :: .int (iz bst) :: .int (iz bmn) :: .long (lz bsm) :: [])), (bsA, .inl (G.2 0, 10, .inl (av bs))), (loA, .inl (G.2 2, 341, .inr (.inl (rv lo)))), (hiA, .inl (G.2 2, 341, .inr (.inl (rv hi)))), (toA, .inl (G.2 0, 30, .inl (av to)))])) () F (zb_nar _) hP hD hK hS (by decide) (by decide) dX9_isFit_52 (by refine congrArg zb ?_; have e9 : i = 10 := (by omega); subst e9; unfold fitF; show _ = (fitG f (bs (to s9)) d (10 : Int).toNat && f 10 (sgn d 10 (bs (to s9)))); rw [hf]; rfl)
      · skip
        refine lv_aload_n hX_ hB_ dX9_isFit_8 rfl (lv_at hl 0 rfl) ?_
        refine lv_iload_n hX_ hB_ dX9_isFit_9 rfl (lv_at hl 1 rfl) ?_
        refine lv_iload_n hX_ hB_ dX9_isFit_10 rfl (lv_at hl 3 rfl) ?_
        refine lv_iload_n hX_ hB_ dX9_isFit_11 rfl (lv_at hl 2 rfl) ?_
        refine lv_iload_n hX_ hB_ dX9_isFit_12 rfl (lv_at hl 3 rfl) ?_
        refine back_i (wr := [(mo, .inr (7, .int (iz th) :: .ref bsA :: .int (iz tw) :: .ref tpA :: .int (iz td) :: .int (iz sz) :: .int (iz at_) :: .int (zb iw) :: .ref loA :: .ref hiA :: .long sl :: .long sh :: .ref toA :: .ref mnA :: .ref dyA :: .int (iz sn) :: .ref frA :: .ref t2A :: .ref faA :: .int (iz dn) :: .int (zb iso) :: .ref akA :: .int (iz am) :: .int (iz wr) :: .ref paA :: .ref ofA :: .ref seA :: .ref ecA :: .int (iz em) :: .ref nmA :: .int (iz bst) :: .int (iz bmn) :: .long (lz bsm) :: [])), (bsA, .inl (G.2 0, 10, .inl (av bs))), (loA, .inl (G.2 2, 341, .inr (.inl (rv lo)))), (hiA, .inl (G.2 2, 341, .inr (.inl (rv hi)))), (toA, .inl (G.2 0, 30, .inl (av to)))]) (run_S (As := [.int (iz d), .int (iz i)]) (rest := [.int (iz i), .int (iz s9), .ref mo]) (wc := []) F (c_X9_valueOf l G d i (bs (to s9)) (by omega) (by omega) _) ext0 gX9_isFit_X9_valueOf rfl rfl rfl mds_X9_valueOf ⟨Nat.le_of_ble_eq_true rfl, Nat.le_of_ble_eq_true rfl⟩ (pre_of ext0 hK hP hD hS hA trivial [] (by decide) rfl _) rfl hl.1 (Nat.le_of_ble_eq_true rfl) dX9_isFit_13 ⟨by decide, by decide⟩) hP hD hS hA [] [0, 1, 2, 3, 4] rfl rfl (by decide) (by decide) (fun r__ u__ H locs hw hP hD hS => ?_)
        subst hw
        have hP := hP.sub (ws' := [(mo, .inr (7, .int (iz th) :: .ref bsA :: .int (iz tw) :: .ref tpA :: .int (iz td) :: .int (iz sz) :: .int (iz at_) :: .int (zb iw) :: .ref loA :: .ref hiA :: .long sl :: .long sh :: .ref toA :: .ref mnA :: .ref dyA :: .int (iz sn) :: .ref frA :: .ref t2A :: .ref faA :: .int (iz dn) :: .int (zb iso) :: .ref akA :: .int (iz am) :: .int (iz wr) :: .ref paA :: .ref ofA :: .ref seA :: .ref ecA :: .int (iz em) :: .ref nmA :: .int (iz bst) :: .int (iz bmn) :: .long (lz bsm) :: [])), (bsA, .inl (G.2 0, 10, .inl (av bs))), (loA, .inl (G.2 2, 341, .inr (.inl (rv lo)))), (hiA, .inl (G.2 2, 341, .inr (.inl (rv hi)))), (toA, .inl (G.2 0, 30, .inl (av to)))]) [0, 1, 2, 3, 4] rfl
        have hD := hD.sub (ws' := [(mo, .inr (7, .int (iz th) :: .ref bsA :: .int (iz tw) :: .ref tpA :: .int (iz td) :: .int (iz sz) :: .int (iz at_) :: .int (zb iw) :: .ref loA :: .ref hiA :: .long sl :: .long sh :: .ref toA :: .ref mnA :: .ref dyA :: .int (iz sn) :: .ref frA :: .ref t2A :: .ref faA :: .int (iz dn) :: .int (zb iso) :: .ref akA :: .int (iz am) :: .int (iz wr) :: .ref paA :: .ref ofA :: .ref seA :: .ref ecA :: .int (iz em) :: .ref nmA :: .int (iz bst) :: .int (iz bmn) :: .long (lz bsm) :: [])), (bsA, .inl (G.2 0, 10, .inl (av bs))), (loA, .inl (G.2 2, 341, .inr (.inl (rv lo)))), (hiA, .inl (G.2 2, 341, .inr (.inl (rv hi)))), (toA, .inl (G.2 0, 30, .inl (av to)))]) [0, 1, 2, 3, 4] (by decide) rfl
        have hsg := sgn_30 (d := d) (k := i) (b := (bs (to s9))) hd hbs (by omega)
        refine back_i (wr := [(bsA, .inl (G.2 0, 10, .inl (av bs))), (toA, .inl (G.2 0, 30, .inl (av to)))]) (run_V (As := [.int (iz s9), .int (iz i), .int (iz (sgn d i (bs (to s9))))]) (rest := []) (wc := [(mo, .inr (7, .int (iz th) :: .ref bsA :: .int (iz tw) :: .ref tpA :: .int (iz td) :: .int (iz sz) :: .int (iz at_) :: .int (zb iw) :: .ref loA :: .ref hiA :: .long sl :: .long sh :: .ref toA :: .ref mnA :: .ref dyA :: .int (iz sn) :: .ref frA :: .ref t2A :: .ref faA :: .int (iz dn) :: .int (zb iso) :: .ref akA :: .int (iz am) :: .int (iz wr) :: .ref paA :: .ref ofA :: .ref seA :: .ref ecA :: .int (iz em) :: .ref nmA :: .int (iz bst) :: .int (iz bmn) :: .long (lz bsm) :: [])), (loA, .inl (G.2 2, 341, .inr (.inl (rv lo)))), (hiA, .inl (G.2 2, 341, .inr (.inl (rv hi))))]) F (c_X9_isAllowed l G mo th bsA tw tpA td sz at_ iw loA hiA sl sh toA mnA dyA sn frA t2A faA dn iso akA am wr paA ofA seA ecA em nmA bst bmn bsm lo hi s9 i (sgn d i (bs (to s9))) (by omega) (by omega) (by omega) _) ext0 gX9_isFit_X9_isAllowed rfl rfl rfl mdv_X9_isAllowed ⟨Nat.le_of_ble_eq_true rfl, Nat.le_of_ble_eq_true rfl⟩ (va_recv hK.1 (hP.sub (ws' := [(mo, .inr (7, .int (iz th) :: .ref bsA :: .int (iz tw) :: .ref tpA :: .int (iz td) :: .int (iz sz) :: .int (iz at_) :: .int (zb iw) :: .ref loA :: .ref hiA :: .long sl :: .long sh :: .ref toA :: .ref mnA :: .ref dyA :: .int (iz sn) :: .ref frA :: .ref t2A :: .ref faA :: .int (iz dn) :: .int (zb iso) :: .ref akA :: .int (iz am) :: .int (iz wr) :: .ref paA :: .ref ofA :: .ref seA :: .ref ecA :: .int (iz em) :: .ref nmA :: .int (iz bst) :: .int (iz bmn) :: .long (lz bsm) :: [])), (loA, .inl (G.2 2, 341, .inr (.inl (rv lo)))), (hiA, .inl (G.2 2, 341, .inr (.inl (rv hi))))]) [0, 2, 3] rfl) (ci := 7) (q0 := 0) rfl rfl) (pre_of ext0 hK hP hD hS hA trivial [0, 2, 3] (by decide) rfl _) rfl hl.1 (Nat.le_of_ble_eq_true rfl) dX9_isFit_16 ⟨by decide, by decide⟩) hP hD hS hA [0, 2, 3] [1, 4] rfl rfl (by decide) (by decide) (fun r__ u__ H locs hw hP hD hS => ?_)
        subst hw
        have hP := hP.sub (ws' := [(mo, .inr (7, .int (iz th) :: .ref bsA :: .int (iz tw) :: .ref tpA :: .int (iz td) :: .int (iz sz) :: .int (iz at_) :: .int (zb iw) :: .ref loA :: .ref hiA :: .long sl :: .long sh :: .ref toA :: .ref mnA :: .ref dyA :: .int (iz sn) :: .ref frA :: .ref t2A :: .ref faA :: .int (iz dn) :: .int (zb iso) :: .ref akA :: .int (iz am) :: .int (iz wr) :: .ref paA :: .ref ofA :: .ref seA :: .ref ecA :: .int (iz em) :: .ref nmA :: .int (iz bst) :: .int (iz bmn) :: .long (lz bsm) :: [])), (bsA, .inl (G.2 0, 10, .inl (av bs))), (loA, .inl (G.2 2, 341, .inr (.inl (rv lo)))), (hiA, .inl (G.2 2, 341, .inr (.inl (rv hi)))), (toA, .inl (G.2 0, 30, .inl (av to)))]) [2, 0, 3, 4, 1] rfl
        have hD := hD.sub (ws' := [(mo, .inr (7, .int (iz th) :: .ref bsA :: .int (iz tw) :: .ref tpA :: .int (iz td) :: .int (iz sz) :: .int (iz at_) :: .int (zb iw) :: .ref loA :: .ref hiA :: .long sl :: .long sh :: .ref toA :: .ref mnA :: .ref dyA :: .int (iz sn) :: .ref frA :: .ref t2A :: .ref faA :: .int (iz dn) :: .int (zb iso) :: .ref akA :: .int (iz am) :: .int (iz wr) :: .ref paA :: .ref ofA :: .ref seA :: .ref ecA :: .int (iz em) :: .ref nmA :: .int (iz bst) :: .int (iz bmn) :: .long (lz bsm) :: [])), (bsA, .inl (G.2 0, 10, .inl (av bs))), (loA, .inl (G.2 2, 341, .inr (.inl (rv lo)))), (hiA, .inl (G.2 2, 341, .inr (.inl (rv hi)))), (toA, .inl (G.2 0, 30, .inl (av to)))]) [2, 0, 3, 4, 1] (by decide) rfl
        refine zk_topi (y := (zb (f i (sgn d i (bs (to s9)))))) (congrArg zb (hrm i (by omega) (by omega) _ (by omega) (by omega))) ?_
        refine zk_bif_ne (tgt := 24) hX_ hB_ dX9_isFit_19 (by decide) (fun c_19 => ?_) (fun c_19 => ?_)
        · skip
          refine lv_iinc (v := (iz (i + 1))) (lv' := [(3, .int (iz (i + 1))), (0, .ref mo), (1, .int (iz s9)), (2, .int (iz d))]) hX_ hB_ dX9_isFit_24 hl (k := 3) rfl (iz_add _ _) (by decide) rfl (fun ls hl => ?_)
          refine lv_goto (tgt := 2) hX_ hB_ dX9_isFit_27 (by decide) ?_
          exact ih_2 (i + 1) (by omega) (by rw [fitG_z hi9.1, hf, c_19]; rfl) (by omega) _ _ hP hD hS ls (lv_sub hl [1, 2, 3, 0] rfl)
        · skip
          refine zk_iconst hX_ hB_ dX9_isFit_22 ?_
          refine zk_topi (y := zb false) rfl ?_
          exact fin_i (wf := (fun _ : Unit => [(mo, .inr (7, .int (iz th) :: .ref bsA :: .int (iz tw) :: .ref tpA :: .int (iz td) :: .int (iz sz) :: .int (iz at_) :: .int (zb iw) :: .ref loA :: .ref hiA :: .long sl :: .long sh :: .ref toA :: .ref mnA :: .ref dyA :: .int (iz sn) :: .ref frA :: .ref t2A :: .ref faA :: .int (iz dn) :: .int (zb iso) :: .ref akA :: .int (iz am) :: .int (iz wr) :: .ref paA :: .ref ofA :: .ref seA :: .ref ecA :: .int (iz em) :: .ref nmA :: .int (iz bst) :: .int (iz bmn) :: .long (lz bsm) :: [])), (bsA, .inl (G.2 0, 10, .inl (av bs))), (loA, .inl (G.2 2, 341, .inr (.inl (rv lo)))), (hiA, .inl (G.2 2, 341, .inr (.inl (rv hi)))), (toA, .inl (G.2 0, 30, .inl (av to)))])) () F (zb_nar _) hP hD hK hS (by decide) (by decide) dX9_isFit_23 (by refine congrArg zb ?_; exact (fitG_no (n := (i + 1).toNat) (m := 11) (by omega) (by rw [fitG_z hi9.1, hf, c_19]; rfl)).symm)
  exact loop_2 _ 0 (by omega) (by rfl) (Nat.lt_succ_self _) _ _ hP hD hS ls (lv_sub hl [1, 2, 3, 0] rfl)

theorem hw_X9_lists_627123 : (.fieldLink RX9 27 "StoneDatesModel" "many" "[I" : Cond) ∈ wsX9_lists := by decide +kernel
theorem hi_X9_lists_X9 : ∀ w ∈ u_ws RX9 TX9 33, w ∈ wsX9_lists := by decide +kernel
theorem hw_X9_lists_8ab22e : (.constant RX9 72 (1152000) : Cond) ∈ wsX9_lists := by decide +kernel
theorem hw_X9_lists_7469d5 : (.constant RX9 73 (1583999) : Cond) ∈ wsX9_lists := by decide +kernel
theorem mdv_X9_isFit : yX9_isFit.cls = RX9 ∧ yX9_isFit.cls ≠ "java/lang/invoke/MethodHandle" ∧ yX9_isFit.cls ≠ "java/lang/invoke/VarHandle" ∧ (parseMethodDescriptor yX9_isFit.desc).map (fun d => d.parameters.length) = some 2 := by decide +kernel
theorem hw_X9_lists_c28315 : (.fieldLink RX9 30 "StoneDatesModel" "days" "[I" : Cond) ∈ wsX9_lists := by decide +kernel
set_option maxHeartbeats 4000000 in
set_option maxRecDepth 100000 in
theorem c_X9_lists (l : Launch) (G : GG) (mo : Nat) (th : Int) (bsA : Nat) (tw : Int) (tpA : Nat) (td : Int) (sz : Int) (at_ : Int) (iw : Bool) (loA : Nat) (hiA : Nat) (sl : Int64) (sh : Int64) (toA : Nat) (mnA : Nat) (dyA : Nat) (sn : Int) (frA : Nat) (t2A : Nat) (faA : Nat) (dn : Int) (iso : Bool) (akA : Nat) (am : Int) (wr : Int) (paA : Nat) (ofA : Nat) (seA : Nat) (ecA : Nat) (em : Int) (nmA : Nat) (bst : Int) (bmn : Int) (bsm : Int) (bs : Int → Int) (lo : Int → Int64) (hi : Int → Int64) (to : Int → Int) (mn : Int → Int) (dy : Int → Int) (f : SS) (s9 : Int) (hs : 0 ≤ s9 ∧ s9 < 30) (hto : 0 ≤ to s9 ∧ to s9 < 10) (hbs : 0 ≤ bs (to s9) ∧ bs (to s9) < 4400) (hrm : RML lo hi s9 f) : Cv l yX9_lists wsX9_lists ({ frames := 2, cells := 0, slots := 0, locals := 46 }) G E0 [.ref mo, .int (iz s9)] [(mo, .inr (7, .int (iz th) :: .ref bsA :: .int (iz tw) :: .ref tpA :: .int (iz td) :: .int (iz sz) :: .int (iz at_) :: .int (zb iw) :: .ref loA :: .ref hiA :: .long sl :: .long sh :: .ref toA :: .ref mnA :: .ref dyA :: .int (iz sn) :: .ref frA :: .ref t2A :: .ref faA :: .int (iz dn) :: .int (zb iso) :: .ref akA :: .int (iz am) :: .int (iz wr) :: .ref paA :: .ref ofA :: .ref seA :: .ref ecA :: .int (iz em) :: .ref nmA :: .int (iz bst) :: .int (iz bmn) :: .long (lz bsm) :: [])), (bsA, .inl (G.2 0, 10, .inl (av bs))), (loA, .inl (G.2 2, 341, .inr (.inl (rv lo)))), (hiA, .inl (G.2 2, 341, .inr (.inl (rv hi)))), (toA, .inl (G.2 0, 30, .inl (av to))), (mnA, .inl (G.2 0, 30, .inl (av mn))), (dyA, .inl (G.2 0, 9000, .inl (av dy)))] 0 0 (fun dy2 : (Int → Int) => [(mo, .inr (7, .int (iz th) :: .ref bsA :: .int (iz tw) :: .ref tpA :: .int (iz td) :: .int (iz sz) :: .int (iz at_) :: .int (zb iw) :: .ref loA :: .ref hiA :: .long sl :: .long sh :: .ref toA :: .ref mnA :: .ref dyA :: .int (iz sn) :: .ref frA :: .ref t2A :: .ref faA :: .int (iz dn) :: .int (zb iso) :: .ref akA :: .int (iz am) :: .int (iz wr) :: .ref paA :: .ref ofA :: .ref seA :: .ref ecA :: .int (iz em) :: .ref nmA :: .int (iz bst) :: .int (iz bmn) :: .long (lz bsm) :: [])), (bsA, .inl (G.2 0, 10, .inl (av bs))), (loA, .inl (G.2 2, 341, .inr (.inl (rv lo)))), (hiA, .inl (G.2 2, 341, .inr (.inl (rv hi)))), (toA, .inl (G.2 0, 30, .inl (av to))), (mnA, .inl (G.2 0, 30, .inl (av (us mn s9 ((nlF f (bs (to s9))).length : Int))))), (dyA, .inl (G.2 0, 9000, .inl (av dy2)))]) (fun (dy2 : (Int → Int)) => FDs dy2 s9 (nlF f (bs (to s9))) ∧ ∀ j : Int, (j < 300 * s9 ∨ 300 * s9 + 300 ≤ j) → dy2 j = dy j) := by
  refine Cv_intro (cc := cX9_lists) (maxL := 3) (ret := none) (by decide) rfl (Nat.le_of_ble_eq_true rfl) ?_
  intro p e s m below meth c A F hA hP hD hK hE ls hl
  have hX_ := F.1
  have hB_ := F.2.1
  have hts := F.2.2.2.2.2.1
  have hown := F.2.2.2.2.1
  have hml := F.2.2.2.1
  have hS : va_S A s.heap s.heap [] := va_S.rf
  have hl : lv_has ls 3 [(0, .ref mo), (1, .int (iz s9))] := hl
  refine lv_aload_n hX_ hB_ dX9_lists_0 rfl (lv_at hl 0 rfl) ?_
  refine va_get (D := G.1) (ci := 7) (v := .ref mnA) (C := RX9) (T := TX9) (N := 33) hX_ hB_ hts hi_X9_lists_X9 hown hK.1 hP 0 rfl rfl 13 (by decide) (hts _ hw_X9_lists_627123) (fun _ h9 => h9) rfl dX9_lists_1 ?_
  refine lv_iload_n hX_ hB_ dX9_lists_4 rfl (lv_at hl 1 rfl) ?_
  refine zk_iconst hX_ hB_ dX9_lists_5 ?_
  refine zk_iast hX_ hB_ hK.1 hP hD hS 5 0 rfl rfl (by omega) (by decide) dX9_lists_6 (fun H locs hP hD hS => ?_)
  have hP : va_P G.1 vwCl [(mo, .inr (7, .int (iz th) :: .ref bsA :: .int (iz tw) :: .ref tpA :: .int (iz td) :: .int (iz sz) :: .int (iz at_) :: .int (zb iw) :: .ref loA :: .ref hiA :: .long sl :: .long sh :: .ref toA :: .ref mnA :: .ref dyA :: .int (iz sn) :: .ref frA :: .ref t2A :: .ref faA :: .int (iz dn) :: .int (zb iso) :: .ref akA :: .int (iz am) :: .int (iz wr) :: .ref paA :: .ref ofA :: .ref seA :: .ref ecA :: .int (iz em) :: .ref nmA :: .int (iz bst) :: .int (iz bmn) :: .long (lz bsm) :: [])), (bsA, .inl (G.2 0, 10, .inl (av bs))), (loA, .inl (G.2 2, 341, .inr (.inl (rv lo)))), (hiA, .inl (G.2 2, 341, .inr (.inl (rv hi)))), (toA, .inl (G.2 0, 30, .inl (av to))), (mnA, .inl (G.2 0, 30, .inl (av (us mn s9 0)))), (dyA, .inl (G.2 0, 9000, .inl (av dy)))] _ := hP
  have hD : va_D A [(mo, .inr (7, .int (iz th) :: .ref bsA :: .int (iz tw) :: .ref tpA :: .int (iz td) :: .int (iz sz) :: .int (iz at_) :: .int (zb iw) :: .ref loA :: .ref hiA :: .long sl :: .long sh :: .ref toA :: .ref mnA :: .ref dyA :: .int (iz sn) :: .ref frA :: .ref t2A :: .ref faA :: .int (iz dn) :: .int (zb iso) :: .ref akA :: .int (iz am) :: .int (iz wr) :: .ref paA :: .ref ofA :: .ref seA :: .ref ecA :: .int (iz em) :: .ref nmA :: .int (iz bst) :: .int (iz bmn) :: .long (lz bsm) :: [])), (bsA, .inl (G.2 0, 10, .inl (av bs))), (loA, .inl (G.2 2, 341, .inr (.inl (rv lo)))), (hiA, .inl (G.2 2, 341, .inr (.inl (rv hi)))), (toA, .inl (G.2 0, 30, .inl (av to))), (mnA, .inl (G.2 0, 30, .inl (av (us mn s9 0)))), (dyA, .inl (G.2 0, 9000, .inl (av dy)))] := hD
  refine zk_ldc hX_ hB_ (1152000) hown (hts _ hw_X9_lists_8ab22e) (by decide) dX9_lists_7 ?_
  refine lv_istore_n (lv' := [(2, .int (iz 1152000)), (0, .ref mo), (1, .int (iz s9))]) hX_ hB_ dX9_lists_9 rfl hl (by decide) rfl (fun ls hl => ?_)
  have loop_10 : ∀ (n_10 : Nat), ∀ (d : Int) (cN : Int) (dq : Int → Int), (1152000 ≤ d ∧ d ≤ 1584000) → (cN = ((fl (fitF f (bs (to s9))) 1152000 (d - 1152000).toNat).length : Int)) → (FDs dq s9 (fl (fitF f (bs (to s9))) 1152000 (d - 1152000).toNat)) → (∀ j : Int, (j < 300 * s9 ∨ 300 * s9 + 300 ≤ j) → dq j = dy j) → ((1584000 - d).toNat < n_10) → ∀ (H : Heap) (locs : List Loc), va_P G.1 vwCl [(mo, .inr (7, .int (iz th) :: .ref bsA :: .int (iz tw) :: .ref tpA :: .int (iz td) :: .int (iz sz) :: .int (iz at_) :: .int (zb iw) :: .ref loA :: .ref hiA :: .long sl :: .long sh :: .ref toA :: .ref mnA :: .ref dyA :: .int (iz sn) :: .ref frA :: .ref t2A :: .ref faA :: .int (iz dn) :: .int (zb iso) :: .ref akA :: .int (iz am) :: .int (iz wr) :: .ref paA :: .ref ofA :: .ref seA :: .ref ecA :: .int (iz em) :: .ref nmA :: .int (iz bst) :: .int (iz bmn) :: .long (lz bsm) :: [])), (bsA, .inl (G.2 0, 10, .inl (av bs))), (loA, .inl (G.2 2, 341, .inr (.inl (rv lo)))), (hiA, .inl (G.2 2, 341, .inr (.inl (rv hi)))), (toA, .inl (G.2 0, 30, .inl (av to))), (mnA, .inl (G.2 0, 30, .inl (av (us mn s9 cN)))), (dyA, .inl (G.2 0, 9000, .inl (av dq)))] H → va_D A [(mo, .inr (7, .int (iz th) :: .ref bsA :: .int (iz tw) :: .ref tpA :: .int (iz td) :: .int (iz sz) :: .int (iz at_) :: .int (zb iw) :: .ref loA :: .ref hiA :: .long sl :: .long sh :: .ref toA :: .ref mnA :: .ref dyA :: .int (iz sn) :: .ref frA :: .ref t2A :: .ref faA :: .int (iz dn) :: .int (zb iso) :: .ref akA :: .int (iz am) :: .int (iz wr) :: .ref paA :: .ref ofA :: .ref seA :: .ref ecA :: .int (iz em) :: .ref nmA :: .int (iz bst) :: .int (iz bmn) :: .long (lz bsm) :: [])), (bsA, .inl (G.2 0, 10, .inl (av bs))), (loA, .inl (G.2 2, 341, .inr (.inl (rv lo)))), (hiA, .inl (G.2 2, 341, .inr (.inl (rv hi)))), (toA, .inl (G.2 0, 30, .inl (av to))), (mnA, .inl (G.2 0, 30, .inl (av (us mn s9 cN)))), (dyA, .inl (G.2 0, 9000, .inl (av dq)))] → va_S A s.heap H locs → ∀ ls : Array Slot, lv_has ls 3 [(0, .ref mo), (1, .int (iz s9)), (2, .int (iz d))] → W p l e ({ frames := 2, cells := 0, slots := 0, locals := 46 }) s m ([.ref mo, .int (iz s9)] : List Value).toArray below meth c H locs 0 0 (MQ below (va_Qv (fun (dy2 : (Int → Int)) => FDs dy2 s9 (nlF f (bs (to s9))) ∧ ∀ j : Int, (j < 300 * s9 ∨ 300 * s9 + 300 ≤ j) → dy2 j = dy j) (fun u__ t__ => Pst G A ((fun dy2 : (Int → Int) => [(mo, .inr (7, .int (iz th) :: .ref bsA :: .int (iz tw) :: .ref tpA :: .int (iz td) :: .int (iz sz) :: .int (iz at_) :: .int (zb iw) :: .ref loA :: .ref hiA :: .long sl :: .long sh :: .ref toA :: .ref mnA :: .ref dyA :: .int (iz sn) :: .ref frA :: .ref t2A :: .ref faA :: .int (iz dn) :: .int (zb iso) :: .ref akA :: .int (iz am) :: .int (iz wr) :: .ref paA :: .ref ofA :: .ref seA :: .ref ecA :: .int (iz em) :: .ref nmA :: .int (iz bst) :: .int (iz bmn) :: .long (lz bsm) :: [])), (bsA, .inl (G.2 0, 10, .inl (av bs))), (loA, .inl (G.2 2, 341, .inr (.inl (rv lo)))), (hiA, .inl (G.2 2, 341, .inr (.inl (rv hi)))), (toA, .inl (G.2 0, 30, .inl (av to))), (mnA, .inl (G.2 0, 30, .inl (av (us mn s9 ((nlF f (bs (to s9))).length : Int))))), (dyA, .inl (G.2 0, 9000, .inl (av dy2)))]) u__) t__) A) ([.ref mo, .int (iz s9)] : List Value).toArray s 0 0 A) (F0 m 10 ls []) := by
    intro n_10
    induction n_10 with
    | zero =>
      intro d cN dq hd hc hfd hfr hm H locs hP hD hS ls hl
      exact absurd hm (Nat.not_lt_zero _)
    | succ n_10 ih_10 =>
      intro d cN dq hd hc hfd hfr hm H locs hP hD hS ls hl
      refine lv_iload_n hX_ hB_ dX9_lists_10 rfl (lv_at hl 2 rfl) ?_
      refine zk_ldc hX_ hB_ (1583999) hown (hts _ hw_X9_lists_7469d5) (by decide) dX9_lists_11 ?_
      refine zk_icmp_gt (tgt := 74) hX_ hB_ (by omega) (by omega) dX9_lists_13 (by decide) (fun c_13 => ?_) (fun c_13 => ?_)
      · skip
        have ed : d = 1584000 := (by omega)
        subst ed
        rw [hc] at hP hD
        exact fin_v (wf := (fun dy2 : (Int → Int) => [(mo, .inr (7, .int (iz th) :: .ref bsA :: .int (iz tw) :: .ref tpA :: .int (iz td) :: .int (iz sz) :: .int (iz at_) :: .int (zb iw) :: .ref loA :: .ref hiA :: .long sl :: .long sh :: .ref toA :: .ref mnA :: .ref dyA :: .int (iz sn) :: .ref frA :: .ref t2A :: .ref faA :: .int (iz dn) :: .int (zb iso) :: .ref akA :: .int (iz am) :: .int (iz wr) :: .ref paA :: .ref ofA :: .ref seA :: .ref ecA :: .int (iz em) :: .ref nmA :: .int (iz bst) :: .int (iz bmn) :: .long (lz bsm) :: [])), (bsA, .inl (G.2 0, 10, .inl (av bs))), (loA, .inl (G.2 2, 341, .inr (.inl (rv lo)))), (hiA, .inl (G.2 2, 341, .inr (.inl (rv hi)))), (toA, .inl (G.2 0, 30, .inl (av to))), (mnA, .inl (G.2 0, 30, .inl (av (us mn s9 ((nlF f (bs (to s9))).length : Int))))), (dyA, .inl (G.2 0, 9000, .inl (av dy2)))])) dq F hP hD hK hS (by decide) (by decide) dX9_lists_74 (by exact ⟨hfd, hfr⟩)
      · skip
        refine lv_aload_n hX_ hB_ dX9_lists_16 rfl (lv_at hl 0 rfl) ?_
        refine lv_iload_n hX_ hB_ dX9_lists_17 rfl (lv_at hl 1 rfl) ?_
        refine lv_iload_n hX_ hB_ dX9_lists_18 rfl (lv_at hl 2 rfl) ?_
        refine back_i (wr := [(mnA, .inl (G.2 0, 30, .inl (av (us mn s9 cN)))), (dyA, .inl (G.2 0, 9000, .inl (av dq)))]) (run_V (As := [.int (iz s9), .int (iz d)]) (rest := []) (wc := [(mo, .inr (7, .int (iz th) :: .ref bsA :: .int (iz tw) :: .ref tpA :: .int (iz td) :: .int (iz sz) :: .int (iz at_) :: .int (zb iw) :: .ref loA :: .ref hiA :: .long sl :: .long sh :: .ref toA :: .ref mnA :: .ref dyA :: .int (iz sn) :: .ref frA :: .ref t2A :: .ref faA :: .int (iz dn) :: .int (zb iso) :: .ref akA :: .int (iz am) :: .int (iz wr) :: .ref paA :: .ref ofA :: .ref seA :: .ref ecA :: .int (iz em) :: .ref nmA :: .int (iz bst) :: .int (iz bmn) :: .long (lz bsm) :: [])), (bsA, .inl (G.2 0, 10, .inl (av bs))), (loA, .inl (G.2 2, 341, .inr (.inl (rv lo)))), (hiA, .inl (G.2 2, 341, .inr (.inl (rv hi)))), (toA, .inl (G.2 0, 30, .inl (av to)))]) F (c_X9_isFit l G mo th bsA tw tpA td sz at_ iw loA hiA sl sh toA mnA dyA sn frA t2A faA dn iso akA am wr paA ofA seA ecA em nmA bst bmn bsm bs lo hi to f s9 d hs hto hbs hrm (by omega) _) ext0 gX9_lists_X9_isFit rfl rfl rfl mdv_X9_isFit ⟨Nat.le_of_ble_eq_true rfl, Nat.le_of_ble_eq_true rfl⟩ (va_recv hK.1 (hP.sub (ws' := [(mo, .inr (7, .int (iz th) :: .ref bsA :: .int (iz tw) :: .ref tpA :: .int (iz td) :: .int (iz sz) :: .int (iz at_) :: .int (zb iw) :: .ref loA :: .ref hiA :: .long sl :: .long sh :: .ref toA :: .ref mnA :: .ref dyA :: .int (iz sn) :: .ref frA :: .ref t2A :: .ref faA :: .int (iz dn) :: .int (zb iso) :: .ref akA :: .int (iz am) :: .int (iz wr) :: .ref paA :: .ref ofA :: .ref seA :: .ref ecA :: .int (iz em) :: .ref nmA :: .int (iz bst) :: .int (iz bmn) :: .long (lz bsm) :: [])), (bsA, .inl (G.2 0, 10, .inl (av bs))), (loA, .inl (G.2 2, 341, .inr (.inl (rv lo)))), (hiA, .inl (G.2 2, 341, .inr (.inl (rv hi)))), (toA, .inl (G.2 0, 30, .inl (av to)))]) [0, 1, 2, 3, 4] rfl) (ci := 7) (q0 := 0) rfl rfl) (pre_of ext0 hK hP hD hS hA trivial [0, 1, 2, 3, 4] (by decide) rfl _) rfl hl.1 (Nat.le_of_ble_eq_true rfl) dX9_lists_19 ⟨by decide, by decide⟩) hP hD hS hA [0, 1, 2, 3, 4] [5, 6] rfl rfl (by decide) (by decide) (fun r__ u__ H locs hw hP hD hS => ?_)
        subst hw
        have hP := hP.sub (ws' := [(mo, .inr (7, .int (iz th) :: .ref bsA :: .int (iz tw) :: .ref tpA :: .int (iz td) :: .int (iz sz) :: .int (iz at_) :: .int (zb iw) :: .ref loA :: .ref hiA :: .long sl :: .long sh :: .ref toA :: .ref mnA :: .ref dyA :: .int (iz sn) :: .ref frA :: .ref t2A :: .ref faA :: .int (iz dn) :: .int (zb iso) :: .ref akA :: .int (iz am) :: .int (iz wr) :: .ref paA :: .ref ofA :: .ref seA :: .ref ecA :: .int (iz em) :: .ref nmA :: .int (iz bst) :: .int (iz bmn) :: .long (lz bsm) :: [])), (bsA, .inl (G.2 0, 10, .inl (av bs))), (loA, .inl (G.2 2, 341, .inr (.inl (rv lo)))), (hiA, .inl (G.2 2, 341, .inr (.inl (rv hi)))), (toA, .inl (G.2 0, 30, .inl (av to))), (mnA, .inl (G.2 0, 30, .inl (av (us mn s9 cN)))), (dyA, .inl (G.2 0, 9000, .inl (av dq)))]) [2, 3, 4, 5, 6, 0, 1] rfl
        have hD := hD.sub (ws' := [(mo, .inr (7, .int (iz th) :: .ref bsA :: .int (iz tw) :: .ref tpA :: .int (iz td) :: .int (iz sz) :: .int (iz at_) :: .int (zb iw) :: .ref loA :: .ref hiA :: .long sl :: .long sh :: .ref toA :: .ref mnA :: .ref dyA :: .int (iz sn) :: .ref frA :: .ref t2A :: .ref faA :: .int (iz dn) :: .int (zb iso) :: .ref akA :: .int (iz am) :: .int (iz wr) :: .ref paA :: .ref ofA :: .ref seA :: .ref ecA :: .int (iz em) :: .ref nmA :: .int (iz bst) :: .int (iz bmn) :: .long (lz bsm) :: [])), (bsA, .inl (G.2 0, 10, .inl (av bs))), (loA, .inl (G.2 2, 341, .inr (.inl (rv lo)))), (hiA, .inl (G.2 2, 341, .inr (.inl (rv hi)))), (toA, .inl (G.2 0, 30, .inl (av to))), (mnA, .inl (G.2 0, 30, .inl (av (us mn s9 cN)))), (dyA, .inl (G.2 0, 9000, .inl (av dq)))]) [2, 3, 4, 5, 6, 0, 1] (by decide) rfl
        refine zk_bif_ne (tgt := 28) hX_ hB_ dX9_lists_22 (by decide) (fun c_22 => ?_) (fun c_22 => ?_)
        · skip
          have hle := fl_le (f := fitF f (bs (to s9))) (a := 1152000) (d - 1152000).toNat
          refine lv_aload_n hX_ hB_ dX9_lists_28 rfl (lv_at hl 0 rfl) ?_
          refine va_get (D := G.1) (ci := 7) (v := .ref mnA) (C := RX9) (T := TX9) (N := 33) hX_ hB_ hts hi_X9_lists_X9 hown hK.1 hP 0 rfl rfl 13 (by decide) (hts _ hw_X9_lists_627123) (fun _ h9 => h9) rfl dX9_lists_29 ?_
          refine lv_iload_n hX_ hB_ dX9_lists_32 rfl (lv_at hl 1 rfl) ?_
          refine zk_iald hX_ hB_ hK.1 hP 5 0 rfl rfl (by omega) (by decide) dX9_lists_33 ?_
          refine zk_topi (y := (iz cN)) (congrArg iz us_at) ?_
          refine zk_sipush hX_ hB_ (by decide) dX9_lists_34 ?_
          refine zk_icmp_ge (tgt := 58) hX_ hB_ (by omega) (by omega) dX9_lists_37 (by decide) (fun c_37 => ?_) (fun c_37 => ?_)
          · skip
            refine lv_aload_n hX_ hB_ dX9_lists_58 rfl (lv_at hl 0 rfl) ?_
            refine va_get (D := G.1) (ci := 7) (v := .ref mnA) (C := RX9) (T := TX9) (N := 33) hX_ hB_ hts hi_X9_lists_X9 hown hK.1 hP 0 rfl rfl 13 (by decide) (hts _ hw_X9_lists_627123) (fun _ h9 => h9) rfl dX9_lists_59 ?_
            refine lv_iload_n hX_ hB_ dX9_lists_62 rfl (lv_at hl 1 rfl) ?_
            refine lv_dup2_11 hX_ hB_ dX9_lists_63 rfl rfl ?_
            refine zk_iald hX_ hB_ hK.1 hP 5 0 rfl rfl (by omega) (by decide) dX9_lists_64 ?_
            refine zk_topi (y := (iz cN)) (congrArg iz us_at) ?_
            refine zk_iconst hX_ hB_ dX9_lists_65 ?_
            refine zk_iadd hX_ hB_ dX9_lists_66 ?_
            refine zk_iast hX_ hB_ hK.1 hP hD hS 5 0 rfl rfl (by omega) (by decide) dX9_lists_67 (fun H locs hP hD hS => ?_)
            have hP : va_P G.1 vwCl [(mo, .inr (7, .int (iz th) :: .ref bsA :: .int (iz tw) :: .ref tpA :: .int (iz td) :: .int (iz sz) :: .int (iz at_) :: .int (zb iw) :: .ref loA :: .ref hiA :: .long sl :: .long sh :: .ref toA :: .ref mnA :: .ref dyA :: .int (iz sn) :: .ref frA :: .ref t2A :: .ref faA :: .int (iz dn) :: .int (zb iso) :: .ref akA :: .int (iz am) :: .int (iz wr) :: .ref paA :: .ref ofA :: .ref seA :: .ref ecA :: .int (iz em) :: .ref nmA :: .int (iz bst) :: .int (iz bmn) :: .long (lz bsm) :: [])), (bsA, .inl (G.2 0, 10, .inl (av bs))), (loA, .inl (G.2 2, 341, .inr (.inl (rv lo)))), (hiA, .inl (G.2 2, 341, .inr (.inl (rv hi)))), (toA, .inl (G.2 0, 30, .inl (av to))), (mnA, .inl (G.2 0, 30, .inl (av (us (us mn s9 cN) s9 (cN + 1))))), (dyA, .inl (G.2 0, 9000, .inl (av dq)))] _ := hP
            have hD : va_D A [(mo, .inr (7, .int (iz th) :: .ref bsA :: .int (iz tw) :: .ref tpA :: .int (iz td) :: .int (iz sz) :: .int (iz at_) :: .int (zb iw) :: .ref loA :: .ref hiA :: .long sl :: .long sh :: .ref toA :: .ref mnA :: .ref dyA :: .int (iz sn) :: .ref frA :: .ref t2A :: .ref faA :: .int (iz dn) :: .int (zb iso) :: .ref akA :: .int (iz am) :: .int (iz wr) :: .ref paA :: .ref ofA :: .ref seA :: .ref ecA :: .int (iz em) :: .ref nmA :: .int (iz bst) :: .int (iz bmn) :: .long (lz bsm) :: [])), (bsA, .inl (G.2 0, 10, .inl (av bs))), (loA, .inl (G.2 2, 341, .inr (.inl (rv lo)))), (hiA, .inl (G.2 2, 341, .inr (.inl (rv hi)))), (toA, .inl (G.2 0, 30, .inl (av to))), (mnA, .inl (G.2 0, 30, .inl (av (us (us mn s9 cN) s9 (cN + 1))))), (dyA, .inl (G.2 0, 9000, .inl (av dq)))] := hD
            refine lv_iinc (v := (iz (d + 1))) (lv' := [(2, .int (iz (d + 1))), (0, .ref mo), (1, .int (iz s9))]) hX_ hB_ dX9_lists_68 hl (k := 2) rfl (iz_add _ _) (by decide) rfl (fun ls hl => ?_)
            refine lv_goto (tgt := 10) hX_ hB_ dX9_lists_71 (by decide) ?_
            rw [us_us] at hP hD
            exact ih_10 (d + 1) (cN + 1) dq (by omega) (by rw [fl_yes hd.1 c_22, List.length_append, hc]; simp) (by rw [fl_yes hd.1 c_22]; exact FDs_full hfd (by omega)) (by exact hfr) (by omega) _ _ hP hD hS ls (lv_sub hl [1, 2, 0] rfl)
          · skip
            refine lv_aload_n hX_ hB_ dX9_lists_40 rfl (lv_at hl 0 rfl) ?_
            refine va_get (D := G.1) (ci := 7) (v := .ref dyA) (C := RX9) (T := TX9) (N := 33) hX_ hB_ hts hi_X9_lists_X9 hown hK.1 hP 0 rfl rfl 14 (by decide) (hts _ hw_X9_lists_c28315) (fun _ h9 => h9) rfl dX9_lists_41 ?_
            refine zk_sipush hX_ hB_ (by decide) dX9_lists_44 ?_
            refine lv_iload_n hX_ hB_ dX9_lists_47 rfl (lv_at hl 1 rfl) ?_
            refine zk_imul hX_ hB_ dX9_lists_48 ?_
            refine lv_aload_n hX_ hB_ dX9_lists_49 rfl (lv_at hl 0 rfl) ?_
            refine va_get (D := G.1) (ci := 7) (v := .ref mnA) (C := RX9) (T := TX9) (N := 33) hX_ hB_ hts hi_X9_lists_X9 hown hK.1 hP 0 rfl rfl 13 (by decide) (hts _ hw_X9_lists_627123) (fun _ h9 => h9) rfl dX9_lists_50 ?_
            refine lv_iload_n hX_ hB_ dX9_lists_53 rfl (lv_at hl 1 rfl) ?_
            refine zk_iald hX_ hB_ hK.1 hP 5 0 rfl rfl (by omega) (by decide) dX9_lists_54 ?_
            refine zk_topi (y := (iz cN)) (congrArg iz us_at) ?_
            refine zk_iadd hX_ hB_ dX9_lists_55 ?_
            refine lv_iload_n hX_ hB_ dX9_lists_56 rfl (lv_at hl 2 rfl) ?_
            refine zk_iast hX_ hB_ hK.1 hP hD hS 6 0 rfl rfl (by omega) (by decide) dX9_lists_57 (fun H locs hP hD hS => ?_)
            have hP : va_P G.1 vwCl [(mo, .inr (7, .int (iz th) :: .ref bsA :: .int (iz tw) :: .ref tpA :: .int (iz td) :: .int (iz sz) :: .int (iz at_) :: .int (zb iw) :: .ref loA :: .ref hiA :: .long sl :: .long sh :: .ref toA :: .ref mnA :: .ref dyA :: .int (iz sn) :: .ref frA :: .ref t2A :: .ref faA :: .int (iz dn) :: .int (zb iso) :: .ref akA :: .int (iz am) :: .int (iz wr) :: .ref paA :: .ref ofA :: .ref seA :: .ref ecA :: .int (iz em) :: .ref nmA :: .int (iz bst) :: .int (iz bmn) :: .long (lz bsm) :: [])), (bsA, .inl (G.2 0, 10, .inl (av bs))), (loA, .inl (G.2 2, 341, .inr (.inl (rv lo)))), (hiA, .inl (G.2 2, 341, .inr (.inl (rv hi)))), (toA, .inl (G.2 0, 30, .inl (av to))), (mnA, .inl (G.2 0, 30, .inl (av (us mn s9 cN)))), (dyA, .inl (G.2 0, 9000, .inl (av (us dq ((300 * s9) + cN) d))))] _ := hP
            have hD : va_D A [(mo, .inr (7, .int (iz th) :: .ref bsA :: .int (iz tw) :: .ref tpA :: .int (iz td) :: .int (iz sz) :: .int (iz at_) :: .int (zb iw) :: .ref loA :: .ref hiA :: .long sl :: .long sh :: .ref toA :: .ref mnA :: .ref dyA :: .int (iz sn) :: .ref frA :: .ref t2A :: .ref faA :: .int (iz dn) :: .int (zb iso) :: .ref akA :: .int (iz am) :: .int (iz wr) :: .ref paA :: .ref ofA :: .ref seA :: .ref ecA :: .int (iz em) :: .ref nmA :: .int (iz bst) :: .int (iz bmn) :: .long (lz bsm) :: [])), (bsA, .inl (G.2 0, 10, .inl (av bs))), (loA, .inl (G.2 2, 341, .inr (.inl (rv lo)))), (hiA, .inl (G.2 2, 341, .inr (.inl (rv hi)))), (toA, .inl (G.2 0, 30, .inl (av to))), (mnA, .inl (G.2 0, 30, .inl (av (us mn s9 cN)))), (dyA, .inl (G.2 0, 9000, .inl (av (us dq ((300 * s9) + cN) d))))] := hD
            refine lv_aload_n hX_ hB_ dX9_lists_58 rfl (lv_at hl 0 rfl) ?_
            refine va_get (D := G.1) (ci := 7) (v := .ref mnA) (C := RX9) (T := TX9) (N := 33) hX_ hB_ hts hi_X9_lists_X9 hown hK.1 hP 0 rfl rfl 13 (by decide) (hts _ hw_X9_lists_627123) (fun _ h9 => h9) rfl dX9_lists_59 ?_
            refine lv_iload_n hX_ hB_ dX9_lists_62 rfl (lv_at hl 1 rfl) ?_
            refine lv_dup2_11 hX_ hB_ dX9_lists_63 rfl rfl ?_
            refine zk_iald hX_ hB_ hK.1 hP 5 0 rfl rfl (by omega) (by decide) dX9_lists_64 ?_
            refine zk_topi (y := (iz cN)) (congrArg iz us_at) ?_
            refine zk_iconst hX_ hB_ dX9_lists_65 ?_
            refine zk_iadd hX_ hB_ dX9_lists_66 ?_
            refine zk_iast hX_ hB_ hK.1 hP hD hS 5 0 rfl rfl (by omega) (by decide) dX9_lists_67 (fun H locs hP hD hS => ?_)
            have hP : va_P G.1 vwCl [(mo, .inr (7, .int (iz th) :: .ref bsA :: .int (iz tw) :: .ref tpA :: .int (iz td) :: .int (iz sz) :: .int (iz at_) :: .int (zb iw) :: .ref loA :: .ref hiA :: .long sl :: .long sh :: .ref toA :: .ref mnA :: .ref dyA :: .int (iz sn) :: .ref frA :: .ref t2A :: .ref faA :: .int (iz dn) :: .int (zb iso) :: .ref akA :: .int (iz am) :: .int (iz wr) :: .ref paA :: .ref ofA :: .ref seA :: .ref ecA :: .int (iz em) :: .ref nmA :: .int (iz bst) :: .int (iz bmn) :: .long (lz bsm) :: [])), (bsA, .inl (G.2 0, 10, .inl (av bs))), (loA, .inl (G.2 2, 341, .inr (.inl (rv lo)))), (hiA, .inl (G.2 2, 341, .inr (.inl (rv hi)))), (toA, .inl (G.2 0, 30, .inl (av to))), (mnA, .inl (G.2 0, 30, .inl (av (us (us mn s9 cN) s9 (cN + 1))))), (dyA, .inl (G.2 0, 9000, .inl (av (us dq ((300 * s9) + cN) d))))] _ := hP
            have hD : va_D A [(mo, .inr (7, .int (iz th) :: .ref bsA :: .int (iz tw) :: .ref tpA :: .int (iz td) :: .int (iz sz) :: .int (iz at_) :: .int (zb iw) :: .ref loA :: .ref hiA :: .long sl :: .long sh :: .ref toA :: .ref mnA :: .ref dyA :: .int (iz sn) :: .ref frA :: .ref t2A :: .ref faA :: .int (iz dn) :: .int (zb iso) :: .ref akA :: .int (iz am) :: .int (iz wr) :: .ref paA :: .ref ofA :: .ref seA :: .ref ecA :: .int (iz em) :: .ref nmA :: .int (iz bst) :: .int (iz bmn) :: .long (lz bsm) :: [])), (bsA, .inl (G.2 0, 10, .inl (av bs))), (loA, .inl (G.2 2, 341, .inr (.inl (rv lo)))), (hiA, .inl (G.2 2, 341, .inr (.inl (rv hi)))), (toA, .inl (G.2 0, 30, .inl (av to))), (mnA, .inl (G.2 0, 30, .inl (av (us (us mn s9 cN) s9 (cN + 1))))), (dyA, .inl (G.2 0, 9000, .inl (av (us dq ((300 * s9) + cN) d))))] := hD
            refine lv_iinc (v := (iz (d + 1))) (lv' := [(2, .int (iz (d + 1))), (0, .ref mo), (1, .int (iz s9))]) hX_ hB_ dX9_lists_68 hl (k := 2) rfl (iz_add _ _) (by decide) rfl (fun ls hl => ?_)
            refine lv_goto (tgt := 10) hX_ hB_ dX9_lists_71 (by decide) ?_
            rw [us_us] at hP hD
            exact ih_10 (d + 1) (cN + 1) (us dq ((300 * s9) + cN) d) (by omega) (by rw [fl_yes hd.1 c_22, List.length_append, hc]; simp) (by rw [fl_yes hd.1 c_22, hc]; exact FDs_add hfd) (by intro j h1; unfold us; rw [if_neg (by omega)]; exact hfr j h1) (by omega) _ _ hP hD hS ls (lv_sub hl [1, 2, 0] rfl)
        · skip
          refine lv_goto (tgt := 68) hX_ hB_ dX9_lists_25 (by decide) ?_
          refine lv_iinc (v := (iz (d + 1))) (lv' := [(2, .int (iz (d + 1))), (0, .ref mo), (1, .int (iz s9))]) hX_ hB_ dX9_lists_68 hl (k := 2) rfl (iz_add _ _) (by decide) rfl (fun ls hl => ?_)
          refine lv_goto (tgt := 10) hX_ hB_ dX9_lists_71 (by decide) ?_
          exact ih_10 (d + 1) cN dq (by omega) (by rw [fl_no hd.1 c_22]; exact hc) (by rw [fl_no hd.1 c_22]; exact hfd) (by exact hfr) (by omega) _ _ hP hD hS ls (lv_sub hl [1, 2, 0] rfl)
  exact loop_10 _ 1152000 0 dy (by omega) (by rfl) (by intro k h1 h2; exact absurd h2 (Nat.not_lt_zero k)) (by intro j h1; rfl) (Nat.lt_succ_self _) _ _ hP hD hS ls (lv_sub hl [1, 2, 0] rfl)
