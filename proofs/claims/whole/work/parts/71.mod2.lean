
/-- the byte at a place of the text, 0 behind it -/
def btz (bt : Int → Int) (n a : Int) : Int := if a < n then bt a else 0
theorem btz_rng {bt : Int → Int} {n a : Int} (hB : ∀ k : Int, 0 ≤ bt k ∧ bt k ≤ 255) : 0 ≤ btz bt n a ∧ btz bt n a ≤ 255 := by
  unfold btz
  have := hB a
  split <;> omega
theorem btz_lt {bt : Int → Int} {n a : Int} (h : 0 < btz bt n a) : a < n ∧ btz bt n a = bt a := by
  unfold btz at h ⊢
  by_cases q : a < n
  · rw [if_pos q]; exact ⟨q, rfl⟩
  · rw [if_neg q] at h; omega
theorem btz_in {bt : Int → Int} {n a : Int} (h : a < n) : btz bt n a = bt a := if_pos h
theorem dg_btz {bt : Int → Int} {n a : Int} : dg bt n a = decide (48 ≤ btz bt n a ∧ btz bt n a ≤ 57) := by
  unfold dg btz
  by_cases q : a < n
  · rw [if_pos q]
    simp [q]
  · rw [if_neg q]
    simp [q]
abbrev lt1 (x : Int) : Prop := 97 ≤ x ∧ x ≤ 122
def mw (bt : Int → Int) (n : Int) (ws : List Int) (a : Int) : Bool := eqU (btz bt n) ws a ws.length && !decide (lt1 (btz bt n (a + ws.length)))
theorem eqU_iff {bt : Int → Int} {ws : List Int} {a : Int} : ∀ k : Nat, eqU bt ws a k = true ↔ ∀ j : Nat, j < k → ws.getD j 0 = bt (a + j)
  | 0 => ⟨fun _ j h => absurd h (Nat.not_lt_zero _), fun _ => rfl⟩
  | k + 1 => by
    unfold eqU
    rw [Bool.and_eq_true, eqU_iff k, decide_eq_true_iff]
    constructor
    · rintro ⟨h1, h2⟩ j hj
      by_cases q : j = k
      · subst q; exact h2
      · exact h1 j (by omega)
    · intro h
      exact ⟨fun j hj => h j (by omega), h k (by omega)⟩
theorem we_at {bt : Int → Int} {n : Int} : ∀ (k : Nat) (a : Int), (∀ j : Nat, j < k → a + j < n ∧ lt1 (bt (a + j))) → ¬ (a + k < n ∧ lt1 (bt (a + k))) → we bt n a = a + k
  | 0, a, h1, h2 => by
    rw [we_stop (fun q => h2 ⟨by simpa using q.1, by simpa using q.2⟩)]
    simp
  | k + 1, a, h1, h2 => by
    have h0 := h1 0 (by omega)
    rw [show a + ((0 : Nat) : Int) = a from by simp] at h0
    rw [we_step ⟨h0.1, h0.2⟩, we_at k (a + 1) (fun j hj => by have := h1 (j + 1) (by omega); rwa [show a + ((j + 1 : Nat) : Int) = a + 1 + (j : Int) from by omega] at this) (by rwa [show a + ((k + 1 : Nat) : Int) = a + 1 + (k : Int) from by omega] at h2)]
    omega
theorem weF_end {bt : Int → Int} {n : Int} : ∀ (k : Nat) (a : Int), n - a ≤ k → ¬ (weF bt n k a < n ∧ lt1 (bt (weF bt n k a)))
  | 0, a, h => fun q => by have q1 : a < n := q.1; omega
  | k + 1, a, h => by
    unfold weF
    by_cases c : a < n ∧ 97 ≤ bt a ∧ bt a ≤ 122
    · rw [if_pos c]
      exact weF_end k (a + 1) (by omega)
    · rw [if_neg c]
      exact fun q => c ⟨q.1, q.2⟩
theorem we_end {bt : Int → Int} {n a : Int} : ¬ (we bt n a < n ∧ lt1 (bt (we bt n a))) := weF_end _ a (by omega)
theorem mw_wq {bt : Int → Int} {n a : Int} {ws : List Int} (hl : ∀ k : Nat, k < ws.length → lt1 (ws.getD k 0)) (ha : a ≤ n) : mw bt n ws a = wq bt ws a (we bt n a) := by
  rw [Bool.eq_iff_iff]
  unfold mw wq
  rw [Bool.and_eq_true, Bool.and_eq_true, eqU_iff, eqU_iff, decide_eq_true_iff, Bool.not_eq_true', decide_eq_false_iff_not]
  constructor
  · rintro ⟨h1, h2⟩
    have h3 : ∀ j : Nat, j < ws.length → a + j < n ∧ ws.getD j 0 = bt (a + j) := fun j hj => by
      have q1 := h1 j hj
      have q2 := hl j hj
      rw [q1] at q2
      obtain ⟨q3, q4⟩ := btz_lt (bt := bt) (n := n) (a := a + j) (by omega)
      exact ⟨q3, q1.trans q4⟩
    have h4 := we_at (bt := bt) (n := n) ws.length a (fun j hj => ⟨(h3 j hj).1, by rw [← (h3 j hj).2]; exact hl j hj⟩) (fun q => h2 (by rw [btz_in q.1]; exact q.2))
    exact ⟨by omega, fun j hj => (h3 j hj).2⟩
  · rintro ⟨h1, h2⟩
    have hr := we_rng (bt := bt) (n := n) ha
    refine ⟨fun j hj => ?_, fun q => ?_⟩
    · rw [btz_in (by omega)]
      exact h2 j hj
    · rw [show a + (ws.length : Int) = we bt n a from by omega] at q
      by_cases q2 : we bt n a < n
      · rw [btz_in q2] at q
        exact we_end ⟨q2, q⟩
      · unfold btz at q
        rw [if_neg q2] at q
        skip
        omega
theorem wb_let : ∀ i : Nat, i < 7 → ∀ k : Nat, k < (wb i).length → lt1 ((wb i).getD k 0) := by
  have h : ∀ i : Nat, i < 7 → ((wb i).length ≤ 6 ∧ ∀ k : Nat, k < 6 → k < (wb i).length → 97 ≤ (wb i).getD k 0 ∧ (wb i).getD k 0 ≤ 122) := by decide
  intro i hi k hk
  have h1 := h i hi
  exact h1.2 k (by omega) hk
theorem wb_len : ∀ i : Nat, i < 7 → 4 ≤ (wb i).length ∧ (wb i).length ≤ 6 := by decide
/-- the model's words: its own constants, each a text -/
def mix (i : Nat) : Nat := [116, 118, 120, 122, 124, 126, 128].getD i 0
def mtx (i : Nat) : String := ["long", "number", "name", "seat", "month", "lord", "moon"].getD i ""
def MWrd (ma mv : Nat → Nat) : EE := fun A U H => ∀ i : Nat, i < 7 → vk_R RX9 (mix i) (mtx i) (ma i) U ∧ StrAt (ma i) (mv i) (wb i) A U H
theorem mwrd_ext (ma mv : Nat → Nat) : Ext (MWrd ma mv) :=
  ⟨fun A u U H hv h i hi => ⟨hv.elim (fun hw => vk_R.warm hw (h i hi).1) (fun he => vk_R.same he.symm (h i hi).1), (strAt_ext _ _ _).1 A u U H hv (h i hi).2⟩, fun A U H H1 hq h i hi => ⟨(h i hi).1, (strAt_ext _ _ _).2.1 A U H H1 hq (h i hi).2⟩, fun A B U H hq h i hi => ⟨(h i hi).1, (strAt_ext _ _ _).2.2 A B U H hq (h i hi).2⟩⟩
abbrev MWE (fo : Option Nat) (ma mv : Nat → Nat) : EE := And2 (StrVm fo) (MWrd ma mv)
theorem mwe_ext (fo : Option Nat) (ma mv : Nat → Nat) : Ext (MWE fo ma mv) := and2_ext (strVm_ext fo) (mwrd_ext ma mv)
def kz : Option Nat → Int
  | none => -1
  | some i => kF i
theorem kxF_yes {bt : Int → Int} {n a : Int} {k i : Nat} (h : wq bt (wb i) a (we bt n a) = true) : kxF bt n a (k + 1) i = some i := by
  unfold kxF; rw [h]; rfl
theorem kxF_no {bt : Int → Int} {n a : Int} {k i : Nat} (h : wq bt (wb i) a (we bt n a) = false) : kxF bt n a (k + 1) i = kxF bt n a k (i + 1) := by
  conv => lhs; unfold kxF
  rw [h]; rfl
theorem hw_X9_byteAt_106af9 : (.fieldLink RX9 93 "StoneDatesModel" "size" "I" : Cond) ∈ wsX9_byteAt := by decide +kernel
theorem hi_X9_byteAt_X9 : ∀ w ∈ u_ws RX9 TX9 33, w ∈ wsX9_byteAt := by decide +kernel
theorem hw_X9_byteAt_c83589 : (.fieldLink RX9 13 "StoneDatesModel" "tape" "[B" : Cond) ∈ wsX9_byteAt := by decide +kernel
set_option maxHeartbeats 4000000 in
set_option maxRecDepth 100000 in
theorem c_X9_byteAt (l : Launch) (G : GG) (mo : Nat) (th : Int) (bsA : Nat) (tw : Int) (tpA : Nat) (td : Int) (sz : Int) (at_ : Int) (iw : Bool) (loA : Nat) (hiA : Nat) (sl : Int64) (sh : Int64) (toA : Nat) (mnA : Nat) (dyA : Nat) (sn : Int) (frA : Nat) (t2A : Nat) (faA : Nat) (dn : Int) (iso : Bool) (akA : Nat) (am : Int) (wr : Int) (paA : Nat) (ofA : Nat) (seA : Nat) (ecA : Nat) (em : Int) (nmA : Nat) (bst : Int) (bmn : Int) (bsm : Int) (tp : Int → Int32) (bt : Int → Int) (x : Int) (hrt : RT tp bt) (hx : 0 ≤ x ∧ x < 2000) (hsz : 0 ≤ sz ∧ sz ≤ 200) : Ci l yX9_byteAt wsX9_byteAt ({ frames := 0, cells := 0, slots := 0, locals := 0 }) G E0 [.ref mo, .int (iz x)] [(mo, .inr (7, .int (iz th) :: .ref bsA :: .int (iz tw) :: .ref tpA :: .int (iz td) :: .int (iz sz) :: .int (iz at_) :: .int (zb iw) :: .ref loA :: .ref hiA :: .long sl :: .long sh :: .ref toA :: .ref mnA :: .ref dyA :: .int (iz sn) :: .ref frA :: .ref t2A :: .ref faA :: .int (iz dn) :: .int (zb iso) :: .ref akA :: .int (iz am) :: .int (iz wr) :: .ref paA :: .ref ofA :: .ref seA :: .ref ecA :: .int (iz em) :: .ref nmA :: .int (iz bst) :: .int (iz bmn) :: .long (lz bsm) :: [])), (tpA, .inl (G.2 1, 200, .inl (rv tp)))] 0 0 (fun _ : Unit => [(mo, .inr (7, .int (iz th) :: .ref bsA :: .int (iz tw) :: .ref tpA :: .int (iz td) :: .int (iz sz) :: .int (iz at_) :: .int (zb iw) :: .ref loA :: .ref hiA :: .long sl :: .long sh :: .ref toA :: .ref mnA :: .ref dyA :: .int (iz sn) :: .ref frA :: .ref t2A :: .ref faA :: .int (iz dn) :: .int (zb iso) :: .ref akA :: .int (iz am) :: .int (iz wr) :: .ref paA :: .ref ofA :: .ref seA :: .ref ecA :: .int (iz em) :: .ref nmA :: .int (iz bst) :: .int (iz bmn) :: .long (lz bsm) :: [])), (tpA, .inl (G.2 1, 200, .inl (rv tp)))]) (fun (r : Int32) (_ : Unit) => r = (iz (btz bt sz x))) := by
  refine Ci_intro (cc := cX9_byteAt) (maxL := 2) (ret := (some .int)) (by decide) rfl (Nat.le_of_ble_eq_true rfl) ?_
  intro p e s m below meth c A F hA hP hD hK hE ls hl
  have hX_ := F.1
  have hB_ := F.2.1
  have hts := F.2.2.2.2.2.1
  have hown := F.2.2.2.2.1
  have hml := F.2.2.2.1
  have hS : va_S A s.heap s.heap [] := va_S.rf
  have hl : lv_has ls 2 [(0, .ref mo), (1, .int (iz x))] := hl
  refine lv_iload_n hX_ hB_ dX9_byteAt_0 rfl (lv_at hl 1 rfl) ?_
  refine lv_aload_n hX_ hB_ dX9_byteAt_1 rfl (lv_at hl 0 rfl) ?_
  refine va_get (D := G.1) (ci := 7) (v := .int (iz sz)) (C := RX9) (T := TX9) (N := 33) hX_ hB_ hts hi_X9_byteAt_X9 hown hK.1 hP 0 rfl rfl 5 (by decide) (hts _ hw_X9_byteAt_106af9) (fun _ h9 => h9) rfl dX9_byteAt_2 ?_
  refine zk_icmp_ge (tgt := 21) hX_ hB_ (by omega) (by omega) dX9_byteAt_5 (by decide) (fun c_5 => ?_) (fun c_5 => ?_)
  · skip
    refine zk_iconst hX_ hB_ dX9_byteAt_21 ?_
    exact fin_i (wf := (fun _ : Unit => [(mo, .inr (7, .int (iz th) :: .ref bsA :: .int (iz tw) :: .ref tpA :: .int (iz td) :: .int (iz sz) :: .int (iz at_) :: .int (zb iw) :: .ref loA :: .ref hiA :: .long sl :: .long sh :: .ref toA :: .ref mnA :: .ref dyA :: .int (iz sn) :: .ref frA :: .ref t2A :: .ref faA :: .int (iz dn) :: .int (zb iso) :: .ref akA :: .int (iz am) :: .int (iz wr) :: .ref paA :: .ref ofA :: .ref seA :: .ref ecA :: .int (iz em) :: .ref nmA :: .int (iz bst) :: .int (iz bmn) :: .long (lz bsm) :: [])), (tpA, .inl (G.2 1, 200, .inl (rv tp)))])) () F rfl hP hD hK hS (by decide) (by decide) dX9_byteAt_22 (by unfold btz; rw [if_neg (by omega)])
  · skip
    refine lv_aload_n hX_ hB_ dX9_byteAt_8 rfl (lv_at hl 0 rfl) ?_
    refine va_get (D := G.1) (ci := 7) (v := .ref tpA) (C := RX9) (T := TX9) (N := 33) hX_ hB_ hts hi_X9_byteAt_X9 hown hK.1 hP 0 rfl rfl 3 (by decide) (hts _ hw_X9_byteAt_c83589) (fun _ h9 => h9) rfl dX9_byteAt_9 ?_
    refine lv_iload_n hX_ hB_ dX9_byteAt_12 rfl (lv_at hl 1 rfl) ?_
    refine zk_baldr hX_ hB_ hK.1 hP 1 1 rfl rfl (by omega) (by decide) dX9_byteAt_13 ?_
    refine zk_sipush hX_ hB_ (by decide) dX9_byteAt_14 ?_
    refine lv_iand hX_ hB_ dX9_byteAt_17 ?_
    refine zk_topi (y := (iz (bt x))) (hrt x) ?_
    refine lv_goto (tgt := 22) hX_ hB_ dX9_byteAt_18 (by decide) ?_
    exact fin_i (wf := (fun _ : Unit => [(mo, .inr (7, .int (iz th) :: .ref bsA :: .int (iz tw) :: .ref tpA :: .int (iz td) :: .int (iz sz) :: .int (iz at_) :: .int (zb iw) :: .ref loA :: .ref hiA :: .long sl :: .long sh :: .ref toA :: .ref mnA :: .ref dyA :: .int (iz sn) :: .ref frA :: .ref t2A :: .ref faA :: .int (iz dn) :: .int (zb iso) :: .ref akA :: .int (iz am) :: .int (iz wr) :: .ref paA :: .ref ofA :: .ref seA :: .ref ecA :: .int (iz em) :: .ref nmA :: .int (iz bst) :: .int (iz bmn) :: .long (lz bsm) :: [])), (tpA, .inl (G.2 1, 200, .inl (rv tp)))])) () F rfl hP hD hK hS (by decide) (by decide) dX9_byteAt_22 (by unfold btz; rw [if_pos (by omega)])

theorem hw_X9_blanks_14df74 : (.fieldLink RX9 96 "StoneDatesModel" "at" "I" : Cond) ∈ wsX9_blanks := by decide +kernel
theorem hi_X9_blanks_X9 : ∀ w ∈ u_ws RX9 TX9 33, w ∈ wsX9_blanks := by decide +kernel
theorem hw_X9_blanks_106af9 : (.fieldLink RX9 93 "StoneDatesModel" "size" "I" : Cond) ∈ wsX9_blanks := by decide +kernel
theorem mdv_X9_byteAt : yX9_byteAt.cls = RX9 ∧ yX9_byteAt.cls ≠ "java/lang/invoke/MethodHandle" ∧ yX9_byteAt.cls ≠ "java/lang/invoke/VarHandle" ∧ (parseMethodDescriptor yX9_byteAt.desc).map (fun d => d.parameters.length) = some 1 := by decide +kernel
set_option maxHeartbeats 4000000 in
set_option maxRecDepth 100000 in
theorem c_X9_blanks (l : Launch) (G : GG) (mo : Nat) (th : Int) (bsA : Nat) (tw : Int) (tpA : Nat) (td : Int) (sz : Int) (at_ : Int) (iw : Bool) (loA : Nat) (hiA : Nat) (sl : Int64) (sh : Int64) (toA : Nat) (mnA : Nat) (dyA : Nat) (sn : Int) (frA : Nat) (t2A : Nat) (faA : Nat) (dn : Int) (iso : Bool) (akA : Nat) (am : Int) (wr : Int) (paA : Nat) (ofA : Nat) (seA : Nat) (ecA : Nat) (em : Int) (nmA : Nat) (bst : Int) (bmn : Int) (bsm : Int) (tp : Int → Int32) (bt : Int → Int) (hrt : RT tp bt) (hB : ∀ k : Int, 0 ≤ bt k ∧ bt k ≤ 255) (ha : 0 ≤ at_ ∧ at_ ≤ sz ∧ sz ≤ 200) : Cv l yX9_blanks wsX9_blanks ({ frames := 1, cells := 0, slots := 0, locals := 21 }) G E0 [.ref mo] [(mo, .inr (7, .int (iz th) :: .ref bsA :: .int (iz tw) :: .ref tpA :: .int (iz td) :: .int (iz sz) :: .int (iz at_) :: .int (zb iw) :: .ref loA :: .ref hiA :: .long sl :: .long sh :: .ref toA :: .ref mnA :: .ref dyA :: .int (iz sn) :: .ref frA :: .ref t2A :: .ref faA :: .int (iz dn) :: .int (zb iso) :: .ref akA :: .int (iz am) :: .int (iz wr) :: .ref paA :: .ref ofA :: .ref seA :: .ref ecA :: .int (iz em) :: .ref nmA :: .int (iz bst) :: .int (iz bmn) :: .long (lz bsm) :: [])), (tpA, .inl (G.2 1, 200, .inl (rv tp)))] 0 0 (fun _ : Unit => [(mo, .inr (7, .int (iz th) :: .ref bsA :: .int (iz tw) :: .ref tpA :: .int (iz td) :: .int (iz sz) :: .int (iz (sk bt sz at_)) :: .int (zb iw) :: .ref loA :: .ref hiA :: .long sl :: .long sh :: .ref toA :: .ref mnA :: .ref dyA :: .int (iz sn) :: .ref frA :: .ref t2A :: .ref faA :: .int (iz dn) :: .int (zb iso) :: .ref akA :: .int (iz am) :: .int (iz wr) :: .ref paA :: .ref ofA :: .ref seA :: .ref ecA :: .int (iz em) :: .ref nmA :: .int (iz bst) :: .int (iz bmn) :: .long (lz bsm) :: [])), (tpA, .inl (G.2 1, 200, .inl (rv tp)))]) (fun (_ : Unit) => True) := by
  refine Cv_intro (cc := cX9_blanks) (maxL := 1) (ret := none) (by decide) rfl (Nat.le_of_ble_eq_true rfl) ?_
  intro p e s m below meth c A F hA hP hD hK hE ls hl
  have hX_ := F.1
  have hB_ := F.2.1
  have hts := F.2.2.2.2.2.1
  have hown := F.2.2.2.2.1
  have hml := F.2.2.2.1
  have hS : va_S A s.heap s.heap [] := va_S.rf
  have hl : lv_has ls 1 [(0, .ref mo)] := hl
  have loop_0 : ∀ (n_0 : Nat), ∀ (a : Int), (0 ≤ a ∧ a ≤ sz) → (sk bt sz a = sk bt sz at_) → ((sz - a).toNat < n_0) → ∀ (H : Heap) (locs : List Loc), va_P G.1 vwCl [(mo, .inr (7, .int (iz th) :: .ref bsA :: .int (iz tw) :: .ref tpA :: .int (iz td) :: .int (iz sz) :: .int (iz a) :: .int (zb iw) :: .ref loA :: .ref hiA :: .long sl :: .long sh :: .ref toA :: .ref mnA :: .ref dyA :: .int (iz sn) :: .ref frA :: .ref t2A :: .ref faA :: .int (iz dn) :: .int (zb iso) :: .ref akA :: .int (iz am) :: .int (iz wr) :: .ref paA :: .ref ofA :: .ref seA :: .ref ecA :: .int (iz em) :: .ref nmA :: .int (iz bst) :: .int (iz bmn) :: .long (lz bsm) :: [])), (tpA, .inl (G.2 1, 200, .inl (rv tp)))] H → va_D A [(mo, .inr (7, .int (iz th) :: .ref bsA :: .int (iz tw) :: .ref tpA :: .int (iz td) :: .int (iz sz) :: .int (iz a) :: .int (zb iw) :: .ref loA :: .ref hiA :: .long sl :: .long sh :: .ref toA :: .ref mnA :: .ref dyA :: .int (iz sn) :: .ref frA :: .ref t2A :: .ref faA :: .int (iz dn) :: .int (zb iso) :: .ref akA :: .int (iz am) :: .int (iz wr) :: .ref paA :: .ref ofA :: .ref seA :: .ref ecA :: .int (iz em) :: .ref nmA :: .int (iz bst) :: .int (iz bmn) :: .long (lz bsm) :: [])), (tpA, .inl (G.2 1, 200, .inl (rv tp)))] → va_S A s.heap H locs → ∀ ls : Array Slot, lv_has ls 1 [(0, .ref mo)] → W p l e ({ frames := 1, cells := 0, slots := 0, locals := 21 }) s m ([.ref mo] : List Value).toArray below meth c H locs 0 0 (MQ below (va_Qv (fun (_ : Unit) => True) (fun u__ t__ => Pst G A ((fun _ : Unit => [(mo, .inr (7, .int (iz th) :: .ref bsA :: .int (iz tw) :: .ref tpA :: .int (iz td) :: .int (iz sz) :: .int (iz (sk bt sz at_)) :: .int (zb iw) :: .ref loA :: .ref hiA :: .long sl :: .long sh :: .ref toA :: .ref mnA :: .ref dyA :: .int (iz sn) :: .ref frA :: .ref t2A :: .ref faA :: .int (iz dn) :: .int (zb iso) :: .ref akA :: .int (iz am) :: .int (iz wr) :: .ref paA :: .ref ofA :: .ref seA :: .ref ecA :: .int (iz em) :: .ref nmA :: .int (iz bst) :: .int (iz bmn) :: .long (lz bsm) :: [])), (tpA, .inl (G.2 1, 200, .inl (rv tp)))]) u__) t__) A) ([.ref mo] : List Value).toArray s 0 0 A) (F0 m 0 ls []) := by
    intro n_0
    induction n_0 with
    | zero =>
      intro a hai hsk hm H locs hP hD hS ls hl
      exact absurd hm (Nat.not_lt_zero _)
    | succ n_0 ih_0 =>
      intro a hai hsk hm H locs hP hD hS ls hl
      refine lv_aload_n hX_ hB_ dX9_blanks_0 rfl (lv_at hl 0 rfl) ?_
      refine va_get (D := G.1) (ci := 7) (v := .int (iz a)) (C := RX9) (T := TX9) (N := 33) hX_ hB_ hts hi_X9_blanks_X9 hown hK.1 hP 0 rfl rfl 6 (by decide) (hts _ hw_X9_blanks_14df74) (fun _ h9 => h9) rfl dX9_blanks_1 ?_
      refine lv_aload_n hX_ hB_ dX9_blanks_4 rfl (lv_at hl 0 rfl) ?_
      refine va_get (D := G.1) (ci := 7) (v := .int (iz sz)) (C := RX9) (T := TX9) (N := 33) hX_ hB_ hts hi_X9_blanks_X9 hown hK.1 hP 0 rfl rfl 5 (by decide) (hts _ hw_X9_blanks_106af9) (fun _ h9 => h9) rfl dX9_blanks_5 ?_
      refine zk_icmp_ge (tgt := 37) hX_ hB_ (by omega) (by omega) dX9_blanks_8 (by decide) (fun c_8 => ?_) (fun c_8 => ?_)
      · skip
        have e9 : sk bt sz at_ = a := hsk.symm.trans (sk_stop (fun q => absurd q.1 (by omega)))
        exact fin_v (wf := (fun _ : Unit => [(mo, .inr (7, .int (iz th) :: .ref bsA :: .int (iz tw) :: .ref tpA :: .int (iz td) :: .int (iz sz) :: .int (iz (sk bt sz at_)) :: .int (zb iw) :: .ref loA :: .ref hiA :: .long sl :: .long sh :: .ref toA :: .ref mnA :: .ref dyA :: .int (iz sn) :: .ref frA :: .ref t2A :: .ref faA :: .int (iz dn) :: .int (zb iso) :: .ref akA :: .int (iz am) :: .int (iz wr) :: .ref paA :: .ref ofA :: .ref seA :: .ref ecA :: .int (iz em) :: .ref nmA :: .int (iz bst) :: .int (iz bmn) :: .long (lz bsm) :: [])), (tpA, .inl (G.2 1, 200, .inl (rv tp)))])) () F (by (try dsimp only); rw [e9]; exact hP) (by (try dsimp only); rw [e9]; exact hD) hK hS (by decide) (by decide) dX9_blanks_37 trivial
      · skip
        refine lv_aload_n hX_ hB_ dX9_blanks_11 rfl (lv_at hl 0 rfl) ?_
        refine lv_aload_n hX_ hB_ dX9_blanks_12 rfl (lv_at hl 0 rfl) ?_
        refine va_get (D := G.1) (ci := 7) (v := .int (iz a)) (C := RX9) (T := TX9) (N := 33) hX_ hB_ hts hi_X9_blanks_X9 hown hK.1 hP 0 rfl rfl 6 (by decide) (hts _ hw_X9_blanks_14df74) (fun _ h9 => h9) rfl dX9_blanks_13 ?_
        refine back_i (wr := []) (run_V (As := [.int (iz a)]) (rest := []) (wc := [(mo, .inr (7, .int (iz th) :: .ref bsA :: .int (iz tw) :: .ref tpA :: .int (iz td) :: .int (iz sz) :: .int (iz a) :: .int (zb iw) :: .ref loA :: .ref hiA :: .long sl :: .long sh :: .ref toA :: .ref mnA :: .ref dyA :: .int (iz sn) :: .ref frA :: .ref t2A :: .ref faA :: .int (iz dn) :: .int (zb iso) :: .ref akA :: .int (iz am) :: .int (iz wr) :: .ref paA :: .ref ofA :: .ref seA :: .ref ecA :: .int (iz em) :: .ref nmA :: .int (iz bst) :: .int (iz bmn) :: .long (lz bsm) :: [])), (tpA, .inl (G.2 1, 200, .inl (rv tp)))]) F (c_X9_byteAt l G mo th bsA tw tpA td sz a iw loA hiA sl sh toA mnA dyA sn frA t2A faA dn iso akA am wr paA ofA seA ecA em nmA bst bmn bsm tp bt a hrt (by omega) (by omega) _) ext0 gX9_blanks_X9_byteAt rfl rfl rfl mdv_X9_byteAt ⟨Nat.le_of_ble_eq_true rfl, Nat.le_of_ble_eq_true rfl⟩ (va_recv hK.1 (hP.sub (ws' := [(mo, .inr (7, .int (iz th) :: .ref bsA :: .int (iz tw) :: .ref tpA :: .int (iz td) :: .int (iz sz) :: .int (iz a) :: .int (zb iw) :: .ref loA :: .ref hiA :: .long sl :: .long sh :: .ref toA :: .ref mnA :: .ref dyA :: .int (iz sn) :: .ref frA :: .ref t2A :: .ref faA :: .int (iz dn) :: .int (zb iso) :: .ref akA :: .int (iz am) :: .int (iz wr) :: .ref paA :: .ref ofA :: .ref seA :: .ref ecA :: .int (iz em) :: .ref nmA :: .int (iz bst) :: .int (iz bmn) :: .long (lz bsm) :: [])), (tpA, .inl (G.2 1, 200, .inl (rv tp)))]) [0, 1] rfl) (ci := 7) (q0 := 0) rfl rfl) (pre_of ext0 hK hP hD hS hA trivial [0, 1] (by decide) rfl _) rfl hl.1 (Nat.le_of_ble_eq_true rfl) dX9_blanks_16 ⟨by decide, by decide⟩) hP hD hS hA [0, 1] [] rfl rfl (by decide) (by decide) (fun r__ u__ H locs hw hP hD hS => ?_)
        subst hw
        have hP := hP.sub (ws' := [(mo, .inr (7, .int (iz th) :: .ref bsA :: .int (iz tw) :: .ref tpA :: .int (iz td) :: .int (iz sz) :: .int (iz a) :: .int (zb iw) :: .ref loA :: .ref hiA :: .long sl :: .long sh :: .ref toA :: .ref mnA :: .ref dyA :: .int (iz sn) :: .ref frA :: .ref t2A :: .ref faA :: .int (iz dn) :: .int (zb iso) :: .ref akA :: .int (iz am) :: .int (iz wr) :: .ref paA :: .ref ofA :: .ref seA :: .ref ecA :: .int (iz em) :: .ref nmA :: .int (iz bst) :: .int (iz bmn) :: .long (lz bsm) :: [])), (tpA, .inl (G.2 1, 200, .inl (rv tp)))]) [0, 1] rfl
        have hD := hD.sub (ws' := [(mo, .inr (7, .int (iz th) :: .ref bsA :: .int (iz tw) :: .ref tpA :: .int (iz td) :: .int (iz sz) :: .int (iz a) :: .int (zb iw) :: .ref loA :: .ref hiA :: .long sl :: .long sh :: .ref toA :: .ref mnA :: .ref dyA :: .int (iz sn) :: .ref frA :: .ref t2A :: .ref faA :: .int (iz dn) :: .int (zb iso) :: .ref akA :: .int (iz am) :: .int (iz wr) :: .ref paA :: .ref ofA :: .ref seA :: .ref ecA :: .int (iz em) :: .ref nmA :: .int (iz bst) :: .int (iz bmn) :: .long (lz bsm) :: [])), (tpA, .inl (G.2 1, 200, .inl (rv tp)))]) [0, 1] (by decide) rfl
        have hbr := btz_rng (bt := bt) (n := sz) (a := a) hB
        refine zk_bipush hX_ hB_ (by decide) dX9_blanks_19 ?_
        refine zk_icmp_ne (tgt := 37) hX_ hB_ (by omega) (by omega) dX9_blanks_21 (by decide) (fun c_21 => ?_) (fun c_21 => ?_)
        · skip
          have e9 : sk bt sz at_ = a := hsk.symm.trans (sk_stop (fun q => c_21 (by rw [btz_in q.1]; exact q.2)))
          exact fin_v (wf := (fun _ : Unit => [(mo, .inr (7, .int (iz th) :: .ref bsA :: .int (iz tw) :: .ref tpA :: .int (iz td) :: .int (iz sz) :: .int (iz (sk bt sz at_)) :: .int (zb iw) :: .ref loA :: .ref hiA :: .long sl :: .long sh :: .ref toA :: .ref mnA :: .ref dyA :: .int (iz sn) :: .ref frA :: .ref t2A :: .ref faA :: .int (iz dn) :: .int (zb iso) :: .ref akA :: .int (iz am) :: .int (iz wr) :: .ref paA :: .ref ofA :: .ref seA :: .ref ecA :: .int (iz em) :: .ref nmA :: .int (iz bst) :: .int (iz bmn) :: .long (lz bsm) :: [])), (tpA, .inl (G.2 1, 200, .inl (rv tp)))])) () F (by (try dsimp only); rw [e9]; exact hP) (by (try dsimp only); rw [e9]; exact hD) hK hS (by decide) (by decide) dX9_blanks_37 trivial
        · skip
          refine lv_aload_n hX_ hB_ dX9_blanks_24 rfl (lv_at hl 0 rfl) ?_
          refine lv_dup hX_ hB_ dX9_blanks_25 rfl ?_
          refine va_get (D := G.1) (ci := 7) (v := .int (iz a)) (C := RX9) (T := TX9) (N := 33) hX_ hB_ hts hi_X9_blanks_X9 hown hK.1 hP 0 rfl rfl 6 (by decide) (hts _ hw_X9_blanks_14df74) (fun _ h9 => h9) rfl dX9_blanks_26 ?_
          refine zk_iconst hX_ hB_ dX9_blanks_29 ?_
          refine zk_iadd hX_ hB_ dX9_blanks_30 ?_
          refine va_put (D := G.1) (ci := 7) (v := .int (iz (a + 1))) (ty := .int) (C := RX9) (T := TX9) (N := 33) hX_ hB_ hts hi_X9_blanks_X9 tyX9 tyX9_ok nmX9 hown hK.1 hP hD hS 0 rfl rfl 6 (by decide) (hts _ hw_X9_blanks_14df74) (fun _ h9 => h9) rfl (by decide +kernel) rfl rfl (Nat.le_of_ble_eq_true rfl) dX9_blanks_31 (fun H locs hP hD hS => ?_)
          have hP : va_P G.1 vwCl [(mo, .inr (7, .int (iz th) :: .ref bsA :: .int (iz tw) :: .ref tpA :: .int (iz td) :: .int (iz sz) :: .int (iz (a + 1)) :: .int (zb iw) :: .ref loA :: .ref hiA :: .long sl :: .long sh :: .ref toA :: .ref mnA :: .ref dyA :: .int (iz sn) :: .ref frA :: .ref t2A :: .ref faA :: .int (iz dn) :: .int (zb iso) :: .ref akA :: .int (iz am) :: .int (iz wr) :: .ref paA :: .ref ofA :: .ref seA :: .ref ecA :: .int (iz em) :: .ref nmA :: .int (iz bst) :: .int (iz bmn) :: .long (lz bsm) :: [])), (tpA, .inl (G.2 1, 200, .inl (rv tp)))] _ := hP
          have hD : va_D A [(mo, .inr (7, .int (iz th) :: .ref bsA :: .int (iz tw) :: .ref tpA :: .int (iz td) :: .int (iz sz) :: .int (iz (a + 1)) :: .int (zb iw) :: .ref loA :: .ref hiA :: .long sl :: .long sh :: .ref toA :: .ref mnA :: .ref dyA :: .int (iz sn) :: .ref frA :: .ref t2A :: .ref faA :: .int (iz dn) :: .int (zb iso) :: .ref akA :: .int (iz am) :: .int (iz wr) :: .ref paA :: .ref ofA :: .ref seA :: .ref ecA :: .int (iz em) :: .ref nmA :: .int (iz bst) :: .int (iz bmn) :: .long (lz bsm) :: [])), (tpA, .inl (G.2 1, 200, .inl (rv tp)))] := hD
          refine lv_goto (tgt := 0) hX_ hB_ dX9_blanks_34 (by decide) ?_
          exact ih_0 (a + 1) (by omega) (by rw [← hsk]; exact (sk_step (by omega) (by rw [← btz_in (bt := bt) (n := sz) (a := a) (by omega)]; exact c_21)).symm) (by omega) _ _ hP hD hS ls (lv_sub hl [0] rfl)
  exact loop_0 _ at_ (by omega) (by rfl) (Nat.lt_succ_self _) _ _ hP hD hS ls (lv_sub hl [0] rfl)

theorem mdv_X9_blanks : yX9_blanks.cls = RX9 ∧ yX9_blanks.cls ≠ "java/lang/invoke/MethodHandle" ∧ yX9_blanks.cls ≠ "java/lang/invoke/VarHandle" ∧ (parseMethodDescriptor yX9_blanks.desc).map (fun d => d.parameters.length) = some 0 := by decide +kernel
theorem hw_X9_isWord_14df74 : (.fieldLink RX9 96 "StoneDatesModel" "at" "I" : Cond) ∈ wsX9_isWord := by decide +kernel
theorem hi_X9_isWord_X9 : ∀ w ∈ u_ws RX9 TX9 33, w ∈ wsX9_isWord := by decide +kernel
set_option maxHeartbeats 4000000 in
set_option maxRecDepth 100000 in
theorem c_X9_isWord (l : Launch) (G : GG) (mo : Nat) (th : Int) (bsA : Nat) (tw : Int) (tpA : Nat) (td : Int) (sz : Int) (at_ : Int) (iw : Bool) (loA : Nat) (hiA : Nat) (sl : Int64) (sh : Int64) (toA : Nat) (mnA : Nat) (dyA : Nat) (sn : Int) (frA : Nat) (t2A : Nat) (faA : Nat) (dn : Int) (iso : Bool) (akA : Nat) (am : Int) (wr : Int) (paA : Nat) (ofA : Nat) (seA : Nat) (ecA : Nat) (em : Int) (nmA : Nat) (bst : Int) (bmn : Int) (bsm : Int) (tp : Int → Int32) (bt : Int → Int) (fo : Option Nat) (wa : Nat) (wv : Nat) (ws : List Int) (hrt : RT tp bt) (hB : ∀ k : Int, 0 ≤ bt k ∧ bt k ≤ 255) (ha : 0 ≤ at_ ∧ at_ ≤ sz ∧ sz ≤ 200) (hwl : ws.length ≤ 6) (hws : ∀ k : Nat, 0 ≤ ws.getD k 0 ∧ ws.getD k 0 < 256) : Ci l yX9_isWord wsX9_isWord ({ frames := 4, cells := 0, slots := 0, locals := 85 }) G (EStr fo wa wv ws) [.ref mo, .ref wa] [(mo, .inr (7, .int (iz th) :: .ref bsA :: .int (iz tw) :: .ref tpA :: .int (iz td) :: .int (iz sz) :: .int (iz at_) :: .int (zb iw) :: .ref loA :: .ref hiA :: .long sl :: .long sh :: .ref toA :: .ref mnA :: .ref dyA :: .int (iz sn) :: .ref frA :: .ref t2A :: .ref faA :: .int (iz dn) :: .int (zb iso) :: .ref akA :: .int (iz am) :: .int (iz wr) :: .ref paA :: .ref ofA :: .ref seA :: .ref ecA :: .int (iz em) :: .ref nmA :: .int (iz bst) :: .int (iz bmn) :: .long (lz bsm) :: [])), (tpA, .inl (G.2 1, 200, .inl (rv tp)))] 0 0 (fun _ : Unit => [(mo, .inr (7, .int (iz th) :: .ref bsA :: .int (iz tw) :: .ref tpA :: .int (iz td) :: .int (iz sz) :: .int (iz (sk bt sz at_)) :: .int (zb iw) :: .ref loA :: .ref hiA :: .long sl :: .long sh :: .ref toA :: .ref mnA :: .ref dyA :: .int (iz sn) :: .ref frA :: .ref t2A :: .ref faA :: .int (iz dn) :: .int (zb iso) :: .ref akA :: .int (iz am) :: .int (iz wr) :: .ref paA :: .ref ofA :: .ref seA :: .ref ecA :: .int (iz em) :: .ref nmA :: .int (iz bst) :: .int (iz bmn) :: .long (lz bsm) :: [])), (tpA, .inl (G.2 1, 200, .inl (rv tp)))]) (fun (r : Int32) (_ : Unit) => r = (zb (mw bt sz ws (sk bt sz at_)))) := by
  refine Ci_intro (cc := cX9_isWord) (maxL := 3) (ret := (some .boolean)) (by decide) rfl (Nat.le_of_ble_eq_true rfl) ?_
  intro p e s m below meth c A F hA hP hD hK hE ls hl
  have hX_ := F.1
  have hB_ := F.2.1
  have hts := F.2.2.2.2.2.1
  have hown := F.2.2.2.2.1
  have hml := F.2.2.2.1
  have hS : va_S A s.heap s.heap [] := va_S.rf
  have hl : lv_has ls 3 [(0, .ref mo), (1, .ref wa)] := hl
  refine lv_aload_n hX_ hB_ dX9_isWord_0 rfl (lv_at hl 0 rfl) ?_
  refine back_v (wr := []) (run_V (As := []) (rest := []) (wc := [(mo, .inr (7, .int (iz th) :: .ref bsA :: .int (iz tw) :: .ref tpA :: .int (iz td) :: .int (iz sz) :: .int (iz at_) :: .int (zb iw) :: .ref loA :: .ref hiA :: .long sl :: .long sh :: .ref toA :: .ref mnA :: .ref dyA :: .int (iz sn) :: .ref frA :: .ref t2A :: .ref faA :: .int (iz dn) :: .int (zb iso) :: .ref akA :: .int (iz am) :: .int (iz wr) :: .ref paA :: .ref ofA :: .ref seA :: .ref ecA :: .int (iz em) :: .ref nmA :: .int (iz bst) :: .int (iz bmn) :: .long (lz bsm) :: [])), (tpA, .inl (G.2 1, 200, .inl (rv tp)))]) F (c_X9_blanks l G mo th bsA tw tpA td sz at_ iw loA hiA sl sh toA mnA dyA sn frA t2A faA dn iso akA am wr paA ofA seA ecA em nmA bst bmn bsm tp bt hrt hB (by omega) _) ext0 gX9_isWord_X9_blanks rfl rfl rfl mdv_X9_blanks ⟨Nat.le_of_ble_eq_true rfl, Nat.le_of_ble_eq_true rfl⟩ (va_recv hK.1 (hP.sub (ws' := [(mo, .inr (7, .int (iz th) :: .ref bsA :: .int (iz tw) :: .ref tpA :: .int (iz td) :: .int (iz sz) :: .int (iz at_) :: .int (zb iw) :: .ref loA :: .ref hiA :: .long sl :: .long sh :: .ref toA :: .ref mnA :: .ref dyA :: .int (iz sn) :: .ref frA :: .ref t2A :: .ref faA :: .int (iz dn) :: .int (zb iso) :: .ref akA :: .int (iz am) :: .int (iz wr) :: .ref paA :: .ref ofA :: .ref seA :: .ref ecA :: .int (iz em) :: .ref nmA :: .int (iz bst) :: .int (iz bmn) :: .long (lz bsm) :: [])), (tpA, .inl (G.2 1, 200, .inl (rv tp)))]) [0, 1] rfl) (ci := 7) (q0 := 0) rfl rfl) (pre_of ext0 hK hP hD hS hA trivial [0, 1] (by decide) rfl _) rfl hl.1 (Nat.le_of_ble_eq_true rfl) dX9_isWord_1 ⟨by decide, by decide⟩) hP hD hS hA [0, 1] [] rfl rfl (by decide) (by decide) (fun u__ H locs hw hP hD hS => ?_)
  have hw_1 := hw
  have hP := hP.sub (ws' := [(mo, .inr (7, .int (iz th) :: .ref bsA :: .int (iz tw) :: .ref tpA :: .int (iz td) :: .int (iz sz) :: .int (iz (sk bt sz at_)) :: .int (zb iw) :: .ref loA :: .ref hiA :: .long sl :: .long sh :: .ref toA :: .ref mnA :: .ref dyA :: .int (iz sn) :: .ref frA :: .ref t2A :: .ref faA :: .int (iz dn) :: .int (zb iso) :: .ref akA :: .int (iz am) :: .int (iz wr) :: .ref paA :: .ref ofA :: .ref seA :: .ref ecA :: .int (iz em) :: .ref nmA :: .int (iz bst) :: .int (iz bmn) :: .long (lz bsm) :: [])), (tpA, .inl (G.2 1, 200, .inl (rv tp)))]) [0, 1] rfl
  have hD := hD.sub (ws' := [(mo, .inr (7, .int (iz th) :: .ref bsA :: .int (iz tw) :: .ref tpA :: .int (iz td) :: .int (iz sz) :: .int (iz (sk bt sz at_)) :: .int (zb iw) :: .ref loA :: .ref hiA :: .long sl :: .long sh :: .ref toA :: .ref mnA :: .ref dyA :: .int (iz sn) :: .ref frA :: .ref t2A :: .ref faA :: .int (iz dn) :: .int (zb iso) :: .ref akA :: .int (iz am) :: .int (iz wr) :: .ref paA :: .ref ofA :: .ref seA :: .ref ecA :: .int (iz em) :: .ref nmA :: .int (iz bst) :: .int (iz bmn) :: .long (lz bsm) :: [])), (tpA, .inl (G.2 1, 200, .inl (rv tp)))]) [0, 1] (by decide) rfl
  have hsk := sk_rng (bt := bt) (n := sz) (a := at_) (by omega)
  refine zk_iconst hX_ hB_ dX9_isWord_4 ?_
  refine lv_istore_n (lv' := [(2, .int (iz 0)), (0, .ref mo), (1, .ref wa)]) hX_ hB_ dX9_isWord_5 rfl hl (by decide) rfl (fun ls hl => ?_)
  have loop_6 : ∀ (n_6 : Nat), ∀ (i : Int), (0 ≤ i ∧ i ≤ ws.length) → (eqU (btz bt sz) ws (sk bt sz at_) i.toNat = true) → (((ws.length : Int) - i).toNat < n_6) → ∀ (H : Heap) (locs : List Loc), va_P G.1 vwCl [(mo, .inr (7, .int (iz th) :: .ref bsA :: .int (iz tw) :: .ref tpA :: .int (iz td) :: .int (iz sz) :: .int (iz (sk bt sz at_)) :: .int (zb iw) :: .ref loA :: .ref hiA :: .long sl :: .long sh :: .ref toA :: .ref mnA :: .ref dyA :: .int (iz sn) :: .ref frA :: .ref t2A :: .ref faA :: .int (iz dn) :: .int (zb iso) :: .ref akA :: .int (iz am) :: .int (iz wr) :: .ref paA :: .ref ofA :: .ref seA :: .ref ecA :: .int (iz em) :: .ref nmA :: .int (iz bst) :: .int (iz bmn) :: .long (lz bsm) :: [])), (tpA, .inl (G.2 1, 200, .inl (rv tp)))] H → va_D A [(mo, .inr (7, .int (iz th) :: .ref bsA :: .int (iz tw) :: .ref tpA :: .int (iz td) :: .int (iz sz) :: .int (iz (sk bt sz at_)) :: .int (zb iw) :: .ref loA :: .ref hiA :: .long sl :: .long sh :: .ref toA :: .ref mnA :: .ref dyA :: .int (iz sn) :: .ref frA :: .ref t2A :: .ref faA :: .int (iz dn) :: .int (zb iso) :: .ref akA :: .int (iz am) :: .int (iz wr) :: .ref paA :: .ref ofA :: .ref seA :: .ref ecA :: .int (iz em) :: .ref nmA :: .int (iz bst) :: .int (iz bmn) :: .long (lz bsm) :: [])), (tpA, .inl (G.2 1, 200, .inl (rv tp)))] → va_S A s.heap H locs → ∀ ls : Array Slot, lv_has ls 3 [(0, .ref mo), (1, .ref wa), (2, .int (iz i))] → W p l e ({ frames := 4, cells := 0, slots := 0, locals := 85 }) s m ([.ref mo, .ref wa] : List Value).toArray below meth c H locs 0 0 (MQ below (va_Qi (fun (r : Int32) (_ : Unit) => r = (zb (mw bt sz ws (sk bt sz at_)))) (fun u__ t__ => Pst G A ((fun _ : Unit => [(mo, .inr (7, .int (iz th) :: .ref bsA :: .int (iz tw) :: .ref tpA :: .int (iz td) :: .int (iz sz) :: .int (iz (sk bt sz at_)) :: .int (zb iw) :: .ref loA :: .ref hiA :: .long sl :: .long sh :: .ref toA :: .ref mnA :: .ref dyA :: .int (iz sn) :: .ref frA :: .ref t2A :: .ref faA :: .int (iz dn) :: .int (zb iso) :: .ref akA :: .int (iz am) :: .int (iz wr) :: .ref paA :: .ref ofA :: .ref seA :: .ref ecA :: .int (iz em) :: .ref nmA :: .int (iz bst) :: .int (iz bmn) :: .long (lz bsm) :: [])), (tpA, .inl (G.2 1, 200, .inl (rv tp)))]) u__) t__) A) ([.ref mo, .ref wa] : List Value).toArray s 0 0 A) (F0 m 6 ls []) := by
    intro n_6
    induction n_6 with
    | zero =>
      intro i hi hq hm H locs hP hD hS ls hl
      exact absurd hm (Nat.not_lt_zero _)
    | succ n_6 ih_6 =>
      intro i hi hq hm H locs hP hD hS ls hl
      refine lv_iload_n hX_ hB_ dX9_isWord_6 rfl (lv_at hl 2 rfl) ?_
      refine lv_aload_n hX_ hB_ dX9_isWord_7 rfl (lv_at hl 1 rfl) ?_
      refine back_i (wr := [(mo, .inr (7, .int (iz th) :: .ref bsA :: .int (iz tw) :: .ref tpA :: .int (iz td) :: .int (iz sz) :: .int (iz (sk bt sz at_)) :: .int (zb iw) :: .ref loA :: .ref hiA :: .long sl :: .long sh :: .ref toA :: .ref mnA :: .ref dyA :: .int (iz sn) :: .ref frA :: .ref t2A :: .ref faA :: .int (iz dn) :: .int (zb iso) :: .ref akA :: .int (iz am) :: .int (iz wr) :: .ref paA :: .ref ofA :: .ref seA :: .ref ecA :: .int (iz em) :: .ref nmA :: .int (iz bst) :: .int (iz bmn) :: .long (lz bsm) :: [])), (tpA, .inl (G.2 1, 200, .inl (rv tp)))]) (run_V (As := []) (rest := [.int (iz i)]) (wc := []) F (c_J0_length_8abf5 l G fo wa wv ws (by omega) _) (estr_ext fo wa wv ws) gX9_isWord_J0_length_8abf5 rfl rfl rfl mdv_J0_length_8abf5 ⟨Nat.le_of_ble_eq_true rfl, Nat.le_of_ble_eq_true rfl⟩ (va_Orecv hE.2.1 hS) (pre_of (estr_ext fo wa wv ws) hK hP hD hS hA hE [] (by decide) rfl _) rfl hl.1 (Nat.le_of_ble_eq_true rfl) dX9_isWord_8 ⟨by decide, by decide⟩) hP hD hS hA [] [0, 1] rfl rfl (by decide) (by decide) (fun r__ u__ H locs hw hP hD hS => ?_)
      subst hw
      have hP := hP.sub (ws' := [(mo, .inr (7, .int (iz th) :: .ref bsA :: .int (iz tw) :: .ref tpA :: .int (iz td) :: .int (iz sz) :: .int (iz (sk bt sz at_)) :: .int (zb iw) :: .ref loA :: .ref hiA :: .long sl :: .long sh :: .ref toA :: .ref mnA :: .ref dyA :: .int (iz sn) :: .ref frA :: .ref t2A :: .ref faA :: .int (iz dn) :: .int (zb iso) :: .ref akA :: .int (iz am) :: .int (iz wr) :: .ref paA :: .ref ofA :: .ref seA :: .ref ecA :: .int (iz em) :: .ref nmA :: .int (iz bst) :: .int (iz bmn) :: .long (lz bsm) :: [])), (tpA, .inl (G.2 1, 200, .inl (rv tp)))]) [0, 1] rfl
      have hD := hD.sub (ws' := [(mo, .inr (7, .int (iz th) :: .ref bsA :: .int (iz tw) :: .ref tpA :: .int (iz td) :: .int (iz sz) :: .int (iz (sk bt sz at_)) :: .int (zb iw) :: .ref loA :: .ref hiA :: .long sl :: .long sh :: .ref toA :: .ref mnA :: .ref dyA :: .int (iz sn) :: .ref frA :: .ref t2A :: .ref faA :: .int (iz dn) :: .int (zb iso) :: .ref akA :: .int (iz am) :: .int (iz wr) :: .ref paA :: .ref ofA :: .ref seA :: .ref ecA :: .int (iz em) :: .ref nmA :: .int (iz bst) :: .int (iz bmn) :: .long (lz bsm) :: [])), (tpA, .inl (G.2 1, 200, .inl (rv tp)))]) [0, 1] (by decide) rfl
      refine zk_icmp_ge (tgt := 40) hX_ hB_ (by omega) (by omega) dX9_isWord_11 (by decide) (fun c_11 => ?_) (fun c_11 => ?_)
      · skip
        refine lv_aload_n hX_ hB_ dX9_isWord_40 rfl (lv_at hl 0 rfl) ?_
        refine lv_aload_n hX_ hB_ dX9_isWord_41 rfl (lv_at hl 0 rfl) ?_
        refine va_get (D := G.1) (ci := 7) (v := .int (iz (sk bt sz at_))) (C := RX9) (T := TX9) (N := 33) hX_ hB_ hts hi_X9_isWord_X9 hown hK.1 hP 0 rfl rfl 6 (by decide) (hts _ hw_X9_isWord_14df74) (fun _ h9 => h9) rfl dX9_isWord_42 ?_
        refine lv_aload_n hX_ hB_ dX9_isWord_45 rfl (lv_at hl 1 rfl) ?_
        refine back_i (wr := [(mo, .inr (7, .int (iz th) :: .ref bsA :: .int (iz tw) :: .ref tpA :: .int (iz td) :: .int (iz sz) :: .int (iz (sk bt sz at_)) :: .int (zb iw) :: .ref loA :: .ref hiA :: .long sl :: .long sh :: .ref toA :: .ref mnA :: .ref dyA :: .int (iz sn) :: .ref frA :: .ref t2A :: .ref faA :: .int (iz dn) :: .int (zb iso) :: .ref akA :: .int (iz am) :: .int (iz wr) :: .ref paA :: .ref ofA :: .ref seA :: .ref ecA :: .int (iz em) :: .ref nmA :: .int (iz bst) :: .int (iz bmn) :: .long (lz bsm) :: [])), (tpA, .inl (G.2 1, 200, .inl (rv tp)))]) (run_V (As := []) (rest := [.int (iz (sk bt sz at_)), .ref mo]) (wc := []) F (c_J0_length_8abf5 l G fo wa wv ws (by omega) _) (estr_ext fo wa wv ws) gX9_isWord_J0_length_8abf5 rfl rfl rfl mdv_J0_length_8abf5 ⟨Nat.le_of_ble_eq_true rfl, Nat.le_of_ble_eq_true rfl⟩ (va_Orecv hE.2.1 hS) (pre_of (estr_ext fo wa wv ws) hK hP hD hS hA hE [] (by decide) rfl _) rfl hl.1 (Nat.le_of_ble_eq_true rfl) dX9_isWord_46 ⟨by decide, by decide⟩) hP hD hS hA [] [0, 1] rfl rfl (by decide) (by decide) (fun r__ u__ H locs hw hP hD hS => ?_)
        subst hw
        have hP := hP.sub (ws' := [(mo, .inr (7, .int (iz th) :: .ref bsA :: .int (iz tw) :: .ref tpA :: .int (iz td) :: .int (iz sz) :: .int (iz (sk bt sz at_)) :: .int (zb iw) :: .ref loA :: .ref hiA :: .long sl :: .long sh :: .ref toA :: .ref mnA :: .ref dyA :: .int (iz sn) :: .ref frA :: .ref t2A :: .ref faA :: .int (iz dn) :: .int (zb iso) :: .ref akA :: .int (iz am) :: .int (iz wr) :: .ref paA :: .ref ofA :: .ref seA :: .ref ecA :: .int (iz em) :: .ref nmA :: .int (iz bst) :: .int (iz bmn) :: .long (lz bsm) :: [])), (tpA, .inl (G.2 1, 200, .inl (rv tp)))]) [0, 1] rfl
        have hD := hD.sub (ws' := [(mo, .inr (7, .int (iz th) :: .ref bsA :: .int (iz tw) :: .ref tpA :: .int (iz td) :: .int (iz sz) :: .int (iz (sk bt sz at_)) :: .int (zb iw) :: .ref loA :: .ref hiA :: .long sl :: .long sh :: .ref toA :: .ref mnA :: .ref dyA :: .int (iz sn) :: .ref frA :: .ref t2A :: .ref faA :: .int (iz dn) :: .int (zb iso) :: .ref akA :: .int (iz am) :: .int (iz wr) :: .ref paA :: .ref ofA :: .ref seA :: .ref ecA :: .int (iz em) :: .ref nmA :: .int (iz bst) :: .int (iz bmn) :: .long (lz bsm) :: [])), (tpA, .inl (G.2 1, 200, .inl (rv tp)))]) [0, 1] (by decide) rfl
        refine zk_iadd hX_ hB_ dX9_isWord_49 ?_
        refine back_i (wr := []) (run_V (As := [.int (iz ((sk bt sz at_) + (ws.length : Int)))]) (rest := []) (wc := [(mo, .inr (7, .int (iz th) :: .ref bsA :: .int (iz tw) :: .ref tpA :: .int (iz td) :: .int (iz sz) :: .int (iz (sk bt sz at_)) :: .int (zb iw) :: .ref loA :: .ref hiA :: .long sl :: .long sh :: .ref toA :: .ref mnA :: .ref dyA :: .int (iz sn) :: .ref frA :: .ref t2A :: .ref faA :: .int (iz dn) :: .int (zb iso) :: .ref akA :: .int (iz am) :: .int (iz wr) :: .ref paA :: .ref ofA :: .ref seA :: .ref ecA :: .int (iz em) :: .ref nmA :: .int (iz bst) :: .int (iz bmn) :: .long (lz bsm) :: [])), (tpA, .inl (G.2 1, 200, .inl (rv tp)))]) F (c_X9_byteAt l G mo th bsA tw tpA td sz (sk bt sz at_) iw loA hiA sl sh toA mnA dyA sn frA t2A faA dn iso akA am wr paA ofA seA ecA em nmA bst bmn bsm tp bt ((sk bt sz at_) + (ws.length : Int)) hrt (by omega) (by omega) _) ext0 gX9_isWord_X9_byteAt rfl rfl rfl mdv_X9_byteAt ⟨Nat.le_of_ble_eq_true rfl, Nat.le_of_ble_eq_true rfl⟩ (va_recv hK.1 (hP.sub (ws' := [(mo, .inr (7, .int (iz th) :: .ref bsA :: .int (iz tw) :: .ref tpA :: .int (iz td) :: .int (iz sz) :: .int (iz (sk bt sz at_)) :: .int (zb iw) :: .ref loA :: .ref hiA :: .long sl :: .long sh :: .ref toA :: .ref mnA :: .ref dyA :: .int (iz sn) :: .ref frA :: .ref t2A :: .ref faA :: .int (iz dn) :: .int (zb iso) :: .ref akA :: .int (iz am) :: .int (iz wr) :: .ref paA :: .ref ofA :: .ref seA :: .ref ecA :: .int (iz em) :: .ref nmA :: .int (iz bst) :: .int (iz bmn) :: .long (lz bsm) :: [])), (tpA, .inl (G.2 1, 200, .inl (rv tp)))]) [0, 1] rfl) (ci := 7) (q0 := 0) rfl rfl) (pre_of ext0 hK hP hD hS hA trivial [0, 1] (by decide) rfl _) rfl hl.1 (Nat.le_of_ble_eq_true rfl) dX9_isWord_50 ⟨by decide, by decide⟩) hP hD hS hA [0, 1] [] rfl rfl (by decide) (by decide) (fun r__ u__ H locs hw hP hD hS => ?_)
        subst hw
        have hP := hP.sub (ws' := [(mo, .inr (7, .int (iz th) :: .ref bsA :: .int (iz tw) :: .ref tpA :: .int (iz td) :: .int (iz sz) :: .int (iz (sk bt sz at_)) :: .int (zb iw) :: .ref loA :: .ref hiA :: .long sl :: .long sh :: .ref toA :: .ref mnA :: .ref dyA :: .int (iz sn) :: .ref frA :: .ref t2A :: .ref faA :: .int (iz dn) :: .int (zb iso) :: .ref akA :: .int (iz am) :: .int (iz wr) :: .ref paA :: .ref ofA :: .ref seA :: .ref ecA :: .int (iz em) :: .ref nmA :: .int (iz bst) :: .int (iz bmn) :: .long (lz bsm) :: [])), (tpA, .inl (G.2 1, 200, .inl (rv tp)))]) [0, 1] rfl
        have hD := hD.sub (ws' := [(mo, .inr (7, .int (iz th) :: .ref bsA :: .int (iz tw) :: .ref tpA :: .int (iz td) :: .int (iz sz) :: .int (iz (sk bt sz at_)) :: .int (zb iw) :: .ref loA :: .ref hiA :: .long sl :: .long sh :: .ref toA :: .ref mnA :: .ref dyA :: .int (iz sn) :: .ref frA :: .ref t2A :: .ref faA :: .int (iz dn) :: .int (zb iso) :: .ref akA :: .int (iz am) :: .int (iz wr) :: .ref paA :: .ref ofA :: .ref seA :: .ref ecA :: .int (iz em) :: .ref nmA :: .int (iz bst) :: .int (iz bmn) :: .long (lz bsm) :: [])), (tpA, .inl (G.2 1, 200, .inl (rv tp)))]) [0, 1] (by decide) rfl
        have hbr := btz_rng (bt := bt) (n := sz) (a := (sk bt sz at_) + (ws.length : Int)) hB
        refine lv_istore_n (lv' := [(2, .int (iz (btz bt sz ((sk bt sz at_) + (ws.length : Int))))), (0, .ref mo), (1, .ref wa)]) hX_ hB_ dX9_isWord_53 rfl hl (by decide) rfl (fun ls hl => ?_)
        refine lv_iload_n hX_ hB_ dX9_isWord_54 rfl (lv_at hl 0 rfl) ?_
        refine zk_bipush hX_ hB_ (by decide) dX9_isWord_55 ?_
        refine zk_icmp_lt (tgt := 66) hX_ hB_ (by omega) (by omega) dX9_isWord_57 (by decide) (fun c_57 => ?_) (fun c_57 => ?_)
        · skip
          refine zk_iconst hX_ hB_ dX9_isWord_66 ?_
          refine zk_topi (y := (zb true)) rfl ?_
          refine lv_goto (tgt := 71) hX_ hB_ dX9_isWord_67 (by decide) ?_
          exact fin_i (wf := (fun _ : Unit => [(mo, .inr (7, .int (iz th) :: .ref bsA :: .int (iz tw) :: .ref tpA :: .int (iz td) :: .int (iz sz) :: .int (iz (sk bt sz at_)) :: .int (zb iw) :: .ref loA :: .ref hiA :: .long sl :: .long sh :: .ref toA :: .ref mnA :: .ref dyA :: .int (iz sn) :: .ref frA :: .ref t2A :: .ref faA :: .int (iz dn) :: .int (zb iso) :: .ref akA :: .int (iz am) :: .int (iz wr) :: .ref paA :: .ref ofA :: .ref seA :: .ref ecA :: .int (iz em) :: .ref nmA :: .int (iz bst) :: .int (iz bmn) :: .long (lz bsm) :: [])), (tpA, .inl (G.2 1, 200, .inl (rv tp)))])) () F (zb_nar _) hP hD hK hS (by decide) (by decide) dX9_isWord_71 (by refine congrArg zb ?_; have e9 : i.toNat = ws.length := (by omega); rw [e9] at hq; unfold mw; rw [hq, decide_eq_false (by omega)]; rfl)
        · skip
          refine lv_iload_n hX_ hB_ dX9_isWord_60 rfl (lv_at hl 0 rfl) ?_
          refine zk_bipush hX_ hB_ (by decide) dX9_isWord_61 ?_
          refine zk_icmp_le (tgt := 70) hX_ hB_ (by omega) (by omega) dX9_isWord_63 (by decide) (fun c_63 => ?_) (fun c_63 => ?_)
          · skip
            refine zk_iconst hX_ hB_ dX9_isWord_70 ?_
            refine zk_topi (y := (zb false)) rfl ?_
            exact fin_i (wf := (fun _ : Unit => [(mo, .inr (7, .int (iz th) :: .ref bsA :: .int (iz tw) :: .ref tpA :: .int (iz td) :: .int (iz sz) :: .int (iz (sk bt sz at_)) :: .int (zb iw) :: .ref loA :: .ref hiA :: .long sl :: .long sh :: .ref toA :: .ref mnA :: .ref dyA :: .int (iz sn) :: .ref frA :: .ref t2A :: .ref faA :: .int (iz dn) :: .int (zb iso) :: .ref akA :: .int (iz am) :: .int (iz wr) :: .ref paA :: .ref ofA :: .ref seA :: .ref ecA :: .int (iz em) :: .ref nmA :: .int (iz bst) :: .int (iz bmn) :: .long (lz bsm) :: [])), (tpA, .inl (G.2 1, 200, .inl (rv tp)))])) () F (zb_nar _) hP hD hK hS (by decide) (by decide) dX9_isWord_71 (by refine congrArg zb ?_; have e9 : i.toNat = ws.length := (by omega); rw [e9] at hq; unfold mw; rw [hq, decide_eq_true (by omega)]; rfl)
          · skip
            refine zk_iconst hX_ hB_ dX9_isWord_66 ?_
            refine zk_topi (y := (zb true)) rfl ?_
            refine lv_goto (tgt := 71) hX_ hB_ dX9_isWord_67 (by decide) ?_
            exact fin_i (wf := (fun _ : Unit => [(mo, .inr (7, .int (iz th) :: .ref bsA :: .int (iz tw) :: .ref tpA :: .int (iz td) :: .int (iz sz) :: .int (iz (sk bt sz at_)) :: .int (zb iw) :: .ref loA :: .ref hiA :: .long sl :: .long sh :: .ref toA :: .ref mnA :: .ref dyA :: .int (iz sn) :: .ref frA :: .ref t2A :: .ref faA :: .int (iz dn) :: .int (zb iso) :: .ref akA :: .int (iz am) :: .int (iz wr) :: .ref paA :: .ref ofA :: .ref seA :: .ref ecA :: .int (iz em) :: .ref nmA :: .int (iz bst) :: .int (iz bmn) :: .long (lz bsm) :: [])), (tpA, .inl (G.2 1, 200, .inl (rv tp)))])) () F (zb_nar _) hP hD hK hS (by decide) (by decide) dX9_isWord_71 (by refine congrArg zb ?_; have e9 : i.toNat = ws.length := (by omega); rw [e9] at hq; unfold mw; rw [hq, decide_eq_false (by omega)]; rfl)
      · skip
        refine lv_aload_n hX_ hB_ dX9_isWord_14 rfl (lv_at hl 0 rfl) ?_
        refine lv_aload_n hX_ hB_ dX9_isWord_15 rfl (lv_at hl 0 rfl) ?_
        refine va_get (D := G.1) (ci := 7) (v := .int (iz (sk bt sz at_))) (C := RX9) (T := TX9) (N := 33) hX_ hB_ hts hi_X9_isWord_X9 hown hK.1 hP 0 rfl rfl 6 (by decide) (hts _ hw_X9_isWord_14df74) (fun _ h9 => h9) rfl dX9_isWord_16 ?_
        refine lv_iload_n hX_ hB_ dX9_isWord_19 rfl (lv_at hl 2 rfl) ?_
        refine zk_iadd hX_ hB_ dX9_isWord_20 ?_
        refine back_i (wr := []) (run_V (As := [.int (iz ((sk bt sz at_) + i))]) (rest := []) (wc := [(mo, .inr (7, .int (iz th) :: .ref bsA :: .int (iz tw) :: .ref tpA :: .int (iz td) :: .int (iz sz) :: .int (iz (sk bt sz at_)) :: .int (zb iw) :: .ref loA :: .ref hiA :: .long sl :: .long sh :: .ref toA :: .ref mnA :: .ref dyA :: .int (iz sn) :: .ref frA :: .ref t2A :: .ref faA :: .int (iz dn) :: .int (zb iso) :: .ref akA :: .int (iz am) :: .int (iz wr) :: .ref paA :: .ref ofA :: .ref seA :: .ref ecA :: .int (iz em) :: .ref nmA :: .int (iz bst) :: .int (iz bmn) :: .long (lz bsm) :: [])), (tpA, .inl (G.2 1, 200, .inl (rv tp)))]) F (c_X9_byteAt l G mo th bsA tw tpA td sz (sk bt sz at_) iw loA hiA sl sh toA mnA dyA sn frA t2A faA dn iso akA am wr paA ofA seA ecA em nmA bst bmn bsm tp bt ((sk bt sz at_) + i) hrt (by omega) (by omega) _) ext0 gX9_isWord_X9_byteAt rfl rfl rfl mdv_X9_byteAt ⟨Nat.le_of_ble_eq_true rfl, Nat.le_of_ble_eq_true rfl⟩ (va_recv hK.1 (hP.sub (ws' := [(mo, .inr (7, .int (iz th) :: .ref bsA :: .int (iz tw) :: .ref tpA :: .int (iz td) :: .int (iz sz) :: .int (iz (sk bt sz at_)) :: .int (zb iw) :: .ref loA :: .ref hiA :: .long sl :: .long sh :: .ref toA :: .ref mnA :: .ref dyA :: .int (iz sn) :: .ref frA :: .ref t2A :: .ref faA :: .int (iz dn) :: .int (zb iso) :: .ref akA :: .int (iz am) :: .int (iz wr) :: .ref paA :: .ref ofA :: .ref seA :: .ref ecA :: .int (iz em) :: .ref nmA :: .int (iz bst) :: .int (iz bmn) :: .long (lz bsm) :: [])), (tpA, .inl (G.2 1, 200, .inl (rv tp)))]) [0, 1] rfl) (ci := 7) (q0 := 0) rfl rfl) (pre_of ext0 hK hP hD hS hA trivial [0, 1] (by decide) rfl _) rfl hl.1 (Nat.le_of_ble_eq_true rfl) dX9_isWord_21 ⟨by decide, by decide⟩) hP hD hS hA [0, 1] [] rfl rfl (by decide) (by decide) (fun r__ u__ H locs hw hP hD hS => ?_)
        subst hw
        have hP := hP.sub (ws' := [(mo, .inr (7, .int (iz th) :: .ref bsA :: .int (iz tw) :: .ref tpA :: .int (iz td) :: .int (iz sz) :: .int (iz (sk bt sz at_)) :: .int (zb iw) :: .ref loA :: .ref hiA :: .long sl :: .long sh :: .ref toA :: .ref mnA :: .ref dyA :: .int (iz sn) :: .ref frA :: .ref t2A :: .ref faA :: .int (iz dn) :: .int (zb iso) :: .ref akA :: .int (iz am) :: .int (iz wr) :: .ref paA :: .ref ofA :: .ref seA :: .ref ecA :: .int (iz em) :: .ref nmA :: .int (iz bst) :: .int (iz bmn) :: .long (lz bsm) :: [])), (tpA, .inl (G.2 1, 200, .inl (rv tp)))]) [0, 1] rfl
        have hD := hD.sub (ws' := [(mo, .inr (7, .int (iz th) :: .ref bsA :: .int (iz tw) :: .ref tpA :: .int (iz td) :: .int (iz sz) :: .int (iz (sk bt sz at_)) :: .int (zb iw) :: .ref loA :: .ref hiA :: .long sl :: .long sh :: .ref toA :: .ref mnA :: .ref dyA :: .int (iz sn) :: .ref frA :: .ref t2A :: .ref faA :: .int (iz dn) :: .int (zb iso) :: .ref akA :: .int (iz am) :: .int (iz wr) :: .ref paA :: .ref ofA :: .ref seA :: .ref ecA :: .int (iz em) :: .ref nmA :: .int (iz bst) :: .int (iz bmn) :: .long (lz bsm) :: [])), (tpA, .inl (G.2 1, 200, .inl (rv tp)))]) [0, 1] (by decide) rfl
        refine lv_aload_n hX_ hB_ dX9_isWord_24 rfl (lv_at hl 1 rfl) ?_
        refine lv_iload_n hX_ hB_ dX9_isWord_25 rfl (lv_at hl 2 rfl) ?_
        refine back_i (wr := [(mo, .inr (7, .int (iz th) :: .ref bsA :: .int (iz tw) :: .ref tpA :: .int (iz td) :: .int (iz sz) :: .int (iz (sk bt sz at_)) :: .int (zb iw) :: .ref loA :: .ref hiA :: .long sl :: .long sh :: .ref toA :: .ref mnA :: .ref dyA :: .int (iz sn) :: .ref frA :: .ref t2A :: .ref faA :: .int (iz dn) :: .int (zb iso) :: .ref akA :: .int (iz am) :: .int (iz wr) :: .ref paA :: .ref ofA :: .ref seA :: .ref ecA :: .int (iz em) :: .ref nmA :: .int (iz bst) :: .int (iz bmn) :: .long (lz bsm) :: [])), (tpA, .inl (G.2 1, 200, .inl (rv tp)))]) (run_V (As := [.int (iz i)]) (rest := [.int (iz (btz bt sz ((sk bt sz at_) + i)))]) (wc := []) F (c_J0_charAt_5068e l G fo wa wv ws i (by omega) (by omega) hws _) (estr_ext fo wa wv ws) gX9_isWord_J0_charAt_5068e rfl rfl rfl mdv_J0_charAt_5068e ⟨Nat.le_of_ble_eq_true rfl, Nat.le_of_ble_eq_true rfl⟩ (va_Orecv hE.2.1 hS) (pre_of (estr_ext fo wa wv ws) hK hP hD hS hA hE [] (by decide) rfl _) rfl hl.1 (Nat.le_of_ble_eq_true rfl) dX9_isWord_26 ⟨by decide, by decide⟩) hP hD hS hA [] [0, 1] rfl rfl (by decide) (by decide) (fun r__ u__ H locs hw hP hD hS => ?_)
        subst hw
        have hP := hP.sub (ws' := [(mo, .inr (7, .int (iz th) :: .ref bsA :: .int (iz tw) :: .ref tpA :: .int (iz td) :: .int (iz sz) :: .int (iz (sk bt sz at_)) :: .int (zb iw) :: .ref loA :: .ref hiA :: .long sl :: .long sh :: .ref toA :: .ref mnA :: .ref dyA :: .int (iz sn) :: .ref frA :: .ref t2A :: .ref faA :: .int (iz dn) :: .int (zb iso) :: .ref akA :: .int (iz am) :: .int (iz wr) :: .ref paA :: .ref ofA :: .ref seA :: .ref ecA :: .int (iz em) :: .ref nmA :: .int (iz bst) :: .int (iz bmn) :: .long (lz bsm) :: [])), (tpA, .inl (G.2 1, 200, .inl (rv tp)))]) [0, 1] rfl
        have hD := hD.sub (ws' := [(mo, .inr (7, .int (iz th) :: .ref bsA :: .int (iz tw) :: .ref tpA :: .int (iz td) :: .int (iz sz) :: .int (iz (sk bt sz at_)) :: .int (zb iw) :: .ref loA :: .ref hiA :: .long sl :: .long sh :: .ref toA :: .ref mnA :: .ref dyA :: .int (iz sn) :: .ref frA :: .ref t2A :: .ref faA :: .int (iz dn) :: .int (zb iso) :: .ref akA :: .int (iz am) :: .int (iz wr) :: .ref paA :: .ref ofA :: .ref seA :: .ref ecA :: .int (iz em) :: .ref nmA :: .int (iz bst) :: .int (iz bmn) :: .long (lz bsm) :: [])), (tpA, .inl (G.2 1, 200, .inl (rv tp)))]) [0, 1] (by decide) rfl
        have hbr := btz_rng (bt := bt) (n := sz) (a := (sk bt sz at_) + i) hB
        have hwi := hws i.toNat
        refine zk_icmp_eq (tgt := 34) hX_ hB_ (by omega) (by omega) dX9_isWord_29 (by decide) (fun c_29 => ?_) (fun c_29 => ?_)
        · skip
          refine lv_iinc (v := (iz (i + 1))) (lv' := [(2, .int (iz (i + 1))), (0, .ref mo), (1, .ref wa)]) hX_ hB_ dX9_isWord_34 hl (k := 2) rfl (iz_add _ _) (by decide) rfl (fun ls hl => ?_)
          refine lv_goto (tgt := 6) hX_ hB_ dX9_isWord_37 (by decide) ?_
          exact ih_6 (i + 1) (by omega) (by rw [eqU_z hi.1, hq, decide_eq_true c_29.symm]; rfl) (by omega) _ _ hP hD hS ls (lv_sub hl [1, 2, 0] rfl)
        · skip
          refine zk_iconst hX_ hB_ dX9_isWord_32 ?_
          refine zk_topi (y := zb false) rfl ?_
          exact fin_i (wf := (fun _ : Unit => [(mo, .inr (7, .int (iz th) :: .ref bsA :: .int (iz tw) :: .ref tpA :: .int (iz td) :: .int (iz sz) :: .int (iz (sk bt sz at_)) :: .int (zb iw) :: .ref loA :: .ref hiA :: .long sl :: .long sh :: .ref toA :: .ref mnA :: .ref dyA :: .int (iz sn) :: .ref frA :: .ref t2A :: .ref faA :: .int (iz dn) :: .int (zb iso) :: .ref akA :: .int (iz am) :: .int (iz wr) :: .ref paA :: .ref ofA :: .ref seA :: .ref ecA :: .int (iz em) :: .ref nmA :: .int (iz bst) :: .int (iz bmn) :: .long (lz bsm) :: [])), (tpA, .inl (G.2 1, 200, .inl (rv tp)))])) () F (zb_nar _) hP hD hK hS (by decide) (by decide) dX9_isWord_33 (by refine congrArg zb ?_; unfold mw; rw [eqU_no (n := (i + 1).toNat) (m := ws.length) (by omega) (by rw [eqU_z hi.1, decide_eq_false (fun q => c_29 q.symm), Bool.and_false])]; rfl)
  exact loop_6 _ 0 (by omega) (by rfl) (Nat.lt_succ_self _) _ _ hP hD hS ls (lv_sub hl [1, 2, 0] rfl)

set_option maxHeartbeats 4000000 in
set_option maxRecDepth 100000 in
theorem c_X9_wordOf (l : Launch) (G : GG) (fo : Option Nat) (ma : Nat → Nat) (mv : Nat → Nat) (i : Nat) (hi : i < 7) : Cq l yX9_wordOf wsX9_wordOf ({ frames := 0, cells := 0, slots := 0, locals := 0 }) G (MWE fo ma mv) [.int (iz (kF i))] [] 0 0 (fun _ : Unit => []) (fun (r : Option Nat) (_ : Unit) => r = some (ma i)) := by
  refine Cq_intro (cc := cX9_wordOf) (maxL := 1) (ret := (some (.object "java/lang/String"))) (by decide) rfl (Nat.le_of_ble_eq_true rfl) ?_
  intro p e s m below meth c A F hA hP hD hK hE ls hl
  have hX_ := F.1
  have hB_ := F.2.1
  have hts := F.2.2.2.2.2.1
  have hown := F.2.2.2.2.1
  have hml := F.2.2.2.1
  have hS : va_S A s.heap s.heap [] := va_S.rf
  have hl : lv_has ls 1 [(0, .int (iz (kF i)))] := hl
  rcases (show i = 0 ∨ i = 1 ∨ i = 2 ∨ i = 3 ∨ i = 4 ∨ i = 5 ∨ i = 6 by omega) with rfl | rfl | rfl | rfl | rfl | rfl | rfl
  · skip
    have hl : lv_has ls 1 [(0, .int (iz 0))] := hl
    refine lv_iload_n hX_ hB_ dX9_wordOf_0 rfl (lv_at hl 0 rfl) ?_
    refine zk_tableIn (tgt := 56) hX_ hB_ dX9_wordOf_1 (off := 55) (by decide) (by decide) (by decide) rfl (by decide) ?_
    refine va_ldcS hX_ hB_ hown (hE.2 0 (by decide)).1 dX9_wordOf_56 ?_
    refine zk_top (y := va_rf (some (ma 0))) rfl ?_
    exact fin_q (wf := (fun _ : Unit => [])) () F (Or.inl ⟨_, rfl⟩) hP hD hK hS (by decide) (by decide) dX9_wordOf_58 rfl
  · skip
    have hl : lv_has ls 1 [(0, .int (iz 5))] := hl
    refine lv_iload_n hX_ hB_ dX9_wordOf_0 rfl (lv_at hl 0 rfl) ?_
    refine zk_tableIn (tgt := 59) hX_ hB_ dX9_wordOf_1 (off := 58) (by decide) (by decide) (by decide) rfl (by decide) ?_
    refine va_ldcS hX_ hB_ hown (hE.2 1 (by decide)).1 dX9_wordOf_59 ?_
    refine zk_top (y := va_rf (some (ma 1))) rfl ?_
    exact fin_q (wf := (fun _ : Unit => [])) () F (Or.inl ⟨_, rfl⟩) hP hD hK hS (by decide) (by decide) dX9_wordOf_61 rfl
  · skip
    have hl : lv_has ls 1 [(0, .int (iz 6))] := hl
    refine lv_iload_n hX_ hB_ dX9_wordOf_0 rfl (lv_at hl 0 rfl) ?_
    refine zk_tableIn (tgt := 62) hX_ hB_ dX9_wordOf_1 (off := 61) (by decide) (by decide) (by decide) rfl (by decide) ?_
    refine va_ldcS hX_ hB_ hown (hE.2 2 (by decide)).1 dX9_wordOf_62 ?_
    refine zk_top (y := va_rf (some (ma 2))) rfl ?_
    exact fin_q (wf := (fun _ : Unit => [])) () F (Or.inl ⟨_, rfl⟩) hP hD hK hS (by decide) (by decide) dX9_wordOf_64 rfl
  · skip
    have hl : lv_has ls 1 [(0, .int (iz 7))] := hl
    refine lv_iload_n hX_ hB_ dX9_wordOf_0 rfl (lv_at hl 0 rfl) ?_
    refine zk_tableIn (tgt := 65) hX_ hB_ dX9_wordOf_1 (off := 64) (by decide) (by decide) (by decide) rfl (by decide) ?_
    refine va_ldcS hX_ hB_ hown (hE.2 3 (by decide)).1 dX9_wordOf_65 ?_
    refine zk_top (y := va_rf (some (ma 3))) rfl ?_
    exact fin_q (wf := (fun _ : Unit => [])) () F (Or.inl ⟨_, rfl⟩) hP hD hK hS (by decide) (by decide) dX9_wordOf_67 rfl
  · skip
    have hl : lv_has ls 1 [(0, .int (iz 8))] := hl
    refine lv_iload_n hX_ hB_ dX9_wordOf_0 rfl (lv_at hl 0 rfl) ?_
    refine zk_tableIn (tgt := 68) hX_ hB_ dX9_wordOf_1 (off := 67) (by decide) (by decide) (by decide) rfl (by decide) ?_
    refine va_ldcS hX_ hB_ hown (hE.2 4 (by decide)).1 dX9_wordOf_68 ?_
    refine zk_top (y := va_rf (some (ma 4))) rfl ?_
    exact fin_q (wf := (fun _ : Unit => [])) () F (Or.inl ⟨_, rfl⟩) hP hD hK hS (by decide) (by decide) dX9_wordOf_70 rfl
  · skip
    have hl : lv_has ls 1 [(0, .int (iz 9))] := hl
    refine lv_iload_n hX_ hB_ dX9_wordOf_0 rfl (lv_at hl 0 rfl) ?_
    refine zk_tableIn (tgt := 71) hX_ hB_ dX9_wordOf_1 (off := 70) (by decide) (by decide) (by decide) rfl (by decide) ?_
    refine va_ldcS hX_ hB_ hown (hE.2 5 (by decide)).1 dX9_wordOf_71 ?_
    refine zk_top (y := va_rf (some (ma 5))) rfl ?_
    exact fin_q (wf := (fun _ : Unit => [])) () F (Or.inl ⟨_, rfl⟩) hP hD hK hS (by decide) (by decide) dX9_wordOf_73 rfl
  · skip
    have hl : lv_has ls 1 [(0, .int (iz 10))] := hl
    refine lv_iload_n hX_ hB_ dX9_wordOf_0 rfl (lv_at hl 0 rfl) ?_
    refine zk_tableOut (tgt := 74) hX_ hB_ dX9_wordOf_1 (by decide) (by decide) (by decide) ?_
    refine va_ldcS hX_ hB_ hown (hE.2 6 (by decide)).1 dX9_wordOf_74 ?_
    refine zk_top (y := va_rf (some (ma 6))) rfl ?_
    exact fin_q (wf := (fun _ : Unit => [])) () F (Or.inl ⟨_, rfl⟩) hP hD hK hS (by decide) (by decide) dX9_wordOf_76 rfl
