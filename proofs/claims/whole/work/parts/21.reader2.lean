theorem sh32 : ∀ k : Nat, k < 32 → (iz (k : Int) &&& 31).toBitVec.smod 32 = BitVec.ofNat 32 k := by decide
theorem sh32o : ∀ k : Nat, k < 32 → (iz 1 <<< (iz (k : Int) &&& 31)).toBitVec = BitVec.twoPow 32 k := by decide
/-- a set of values in an int stands for a set -/
def RS (x : Int32) (f : Int → Bool) : Prop := ∀ v : Int, 0 ≤ v → v < 31 → hold x v = f v
theorem hold_bit {x : Int32} {v : Int} (h : 0 ≤ v ∧ v < 32) : hold x v = x.toBitVec.getLsbD v.toNat := by
  unfold hold
  have e : ((v.toNat : Nat) : Int) = v := Int.toNat_of_nonneg h.1
  have hk : v.toNat < 32 := by omega
  have h1 : decide (0 ≤ v ∧ v < 32) = true := decide_eq_true h
  rw [h1, Bool.true_and]
  have h2 : ((x >>> (iz v &&& 31)) &&& iz 1).toBitVec = (x.toBitVec.sshiftRight v.toNat) &&& 1#32 := by
    rw [Int32.toBitVec_and, Int32.toBitVec_shiftRight]
    have e1 : (iz 1).toBitVec = 1#32 := by decide
    have e2 : (iz v &&& 31).toBitVec.smod 32 = BitVec.ofNat 32 v.toNat := by
      have := sh32 v.toNat hk
      rw [e] at this
      exact this
    rw [e1, e2, BitVec.sshiftRight_eq', BitVec.toNat_ofNat, Nat.mod_eq_of_lt (by omega)]
  have h3 : ((x >>> (iz v &&& 31)) &&& iz 1) = 0 ↔ x.toBitVec.getLsbD v.toNat = false := by
    rw [← Int32.toBitVec_inj, h2]
    have e0 : (0 : Int32).toBitVec = 0#32 := by decide
    rw [e0]
    constructor
    · intro q
      have q1 : ((x.toBitVec.sshiftRight v.toNat) &&& 1#32).getLsbD 0 = false := by rw [q]; rfl
      rw [BitVec.getLsbD_and, BitVec.getLsbD_sshiftRight] at q1
      simpa [hk] using q1
    · intro q
      apply BitVec.eq_of_getLsbD_eq
      intro i hi
      rw [BitVec.getLsbD_and, BitVec.getLsbD_zero]
      by_cases h0 : i = 0
      · subst h0
        rw [BitVec.getLsbD_sshiftRight, show v.toNat + 0 = v.toNat from rfl, q]
        simp [hk]
      · have : (1#32).getLsbD i = false := by
          rw [BitVec.getLsbD_one]
          simp [h0]
        rw [this, Bool.and_false]
  cases hb : x.toBitVec.getLsbD v.toNat with
  | false => rw [decide_eq_true (h3.mpr hb)]; rfl
  | true => rw [decide_eq_false (fun q => by rw [h3.mp q] at hb; cases hb)]; rfl
theorem hold_or {x : Int32} {v w : Int} (hv : 0 ≤ v ∧ v < 31) (hw : 0 ≤ w ∧ w < 31) : hold (x ||| (iz 1 <<< (iz v &&& 31))) w = (hold x w || decide (w = v)) := by
  have e : ((v.toNat : Nat) : Int) = v := Int.toNat_of_nonneg hv.1
  rw [hold_bit ⟨hw.1, by omega⟩, hold_bit ⟨hw.1, by omega⟩, Int32.toBitVec_or, BitVec.getLsbD_or]
  have h1 : (iz 1 <<< (iz v &&& 31)).toBitVec = BitVec.twoPow 32 v.toNat := by
    have := sh32o v.toNat (by omega)
    rw [e] at this
    exact this
  rw [h1, BitVec.getLsbD_twoPow]
  congr 1
  have hk : w.toNat < 32 := by omega
  by_cases q : w = v
  · subst q
    simp [hk]
  · have : ¬ v.toNat = w.toNat := by omega
    simp [q, this]
theorem hold_and {x y : Int32} {w : Int} (hw : 0 ≤ w ∧ w < 31) : hold (x &&& y) w = (hold x w && hold y w) := by
  rw [hold_bit ⟨hw.1, by omega⟩, hold_bit ⟨hw.1, by omega⟩, hold_bit ⟨hw.1, by omega⟩, Int32.toBitVec_and, BitVec.getLsbD_and]
def adds (f : Int → Bool) (lo hi : Int) : Int → Bool := fun v => f v || decide (lo ≤ v ∧ v ≤ hi)
theorem RS_step {x : Int32} {f : Int → Bool} {lo v : Int} (hlo : 0 ≤ lo ∧ lo ≤ v) (hv : v < 31) (h : RS x (adds f lo (v - 1))) : RS (x ||| (iz 1 <<< (iz v &&& 31))) (adds f lo v) := by
  intro w h1 h2
  rw [hold_or ⟨by omega, hv⟩ ⟨h1, h2⟩, h w h1 h2]
  unfold adds
  by_cases q : w = v
  · subst q
    simp [hlo.2]
  · by_cases q2 : lo ≤ w ∧ w ≤ v - 1
    · have q3 : lo ≤ w ∧ w ≤ v := by omega
      simp [q2, q3, q]
    · have q3 : ¬ (lo ≤ w ∧ w ≤ v) := by omega
      simp [q2, q3, q]
theorem RS_more {x : Int32} {f : Int → Bool} {lo v hi : Int} (h : RS x (adds f lo (v - 1))) (hq : hi < v ∨ 31 ≤ v) (hvh : v ≤ hi + 1) : RS x (adds f lo hi) := by
  intro w h1 h2
  rw [h w h1 h2]
  unfold adds
  congr 1
  exact decide_eq_decide.mpr (by omega)
theorem RS_none {x : Int32} {f : Int → Bool} {lo : Int} (h : RS x f) : RS x (adds f lo (lo - 1)) := by
  intro w h1 h2
  rw [h w h1 h2]
  unfold adds
  have : ¬ (lo ≤ w ∧ w ≤ lo - 1) := by omega
  simp [this]
theorem nOk_sk {bt : Int → Int} {n a : Int} : nOk bt n (sk bt n a) = nOk bt n a := by unfold nOk; rw [sk_sk]
theorem nP_sk {bt : Int → Int} {n a : Int} : nP bt n (sk bt n a) = nP bt n a := by unfold nP; rw [sk_sk]
theorem nV_sk {bt : Int → Int} {n a : Int} : nV bt n (sk bt n a) = nV bt n a := by unfold nV; rw [sk_sk]
/-- the parts between '/': k of them at most -/
def pt (bt : Int → Int) (n : Int) : Nat → Int → (Int → Bool) → Bool × Int × (Int → Bool)
  | 0, a, f => (true, a, f)
  | k + 1, a, f => if rOk bt n a then (if tkB bt n 47 (rP bt n a) then pt bt n k (tkP bt n 47 (rP bt n a)) (adds f (nV bt n a) (rH bt n a)) else (true, tkP bt n 47 (rP bt n a), adds f (nV bt n a) (rH bt n a))) else (false, rP bt n a, f)
theorem pt_rng {bt : Int → Int} {n : Int} : ∀ (k : Nat) (a : Int) (f : Int → Bool), a ≤ n → a ≤ (pt bt n k a f).2.1 ∧ (pt bt n k a f).2.1 ≤ n
  | 0, a, f, h => ⟨Int.le_refl _, h⟩
  | k + 1, a, f, h => by
    have h1 := rP_rng (bt := bt) h
    have h2 := tkP_rng (bt := bt) (c := 47) h1.2
    unfold pt
    split
    · split
      · have := pt_rng (bt := bt) k (tkP bt n 47 (rP bt n a)) (adds f (nV bt n a) (rH bt n a)) h2.2
        omega
      · exact ⟨by show a ≤ tkP bt n 47 (rP bt n a); omega, h2.2⟩
    · exact h1
def part (bt : Int → Int) (n a : Int) : Bool × Int × (Int → Bool) := if tkB bt n 63 a then (true, tkP bt n 63 a, fun _ => true) else pt bt n 200 (tkP bt n 63 a) (fun _ => false)
theorem part_rng {bt : Int → Int} {n a : Int} (h : a ≤ n) : a ≤ (part bt n a).2.1 ∧ (part bt n a).2.1 ≤ n := by
  have h2 := tkP_rng (bt := bt) (c := 63) h
  unfold part
  split
  · exact h2
  · have := pt_rng (bt := bt) 200 (tkP bt n 63 a) (fun _ => false) h2.2
    omega

theorem mdv_X4_readNumber : yX4_readNumber.cls = RX4 ∧ yX4_readNumber.cls ≠ "java/lang/invoke/MethodHandle" ∧ yX4_readNumber.cls ≠ "java/lang/invoke/VarHandle" ∧ (parseMethodDescriptor yX4_readNumber.desc).map (fun d => d.parameters.length) = some 0 := by decide +kernel
theorem hw_X4_readRange_897535 : (.fieldLink RX4 101 "StoneDates$Reader" "heard" "I" : Cond) ∈ wsX4_readRange := by decide +kernel
theorem hi_X4_readRange_X4 : ∀ w ∈ u_ws RX4 TX4 7, w ∈ wsX4_readRange := by decide +kernel
theorem hw_X4_readRange_3794a9 : (.fieldLink RX4 34 "StoneDates$Reader" "at" "I" : Cond) ∈ wsX4_readRange := by decide +kernel
set_option maxHeartbeats 4000000 in
set_option maxRecDepth 100000 in
theorem c_X4_readRange (l : Launch) (G : GG) (h : Nat) (sA : Nat) (bA : Nat) (st : Int → Int32) (size : Int) (fault : Int) (len : Int) (at_ : Int) (heard : Int32) (bt : Int → Int) (f : Int → Bool) (ha : 0 ≤ at_ ∧ at_ ≤ len ∧ len ≤ 200) (hB : ∀ k : Int, 0 ≤ bt k ∧ bt k ≤ 255) (hr : RS heard f) : Ci l yX4_readRange wsX4_readRange ({ frames := 2, cells := 0, slots := 0, locals := 43 }) G E0 [.ref h] [(h, .inr (2, [.ref sA, .int (iz size), .int (iz fault), .ref bA, .int (iz len), .int (iz at_), .int heard])), (sA, .inl (G.2 0, 11, .inl (rv st))), (bA, .inl (G.2 0, 200, .inl (av bt)))] 0 0 (fun u : Int32 × Int => match u with | (heard2, at2) => [(h, .inr (2, [.ref sA, .int (iz size), .int (iz (if rOk bt len at_ then fault else rP bt len at_)), .ref bA, .int (iz len), .int (iz at2), .int heard2])), (sA, .inl (G.2 0, 11, .inl (rv st))), (bA, .inl (G.2 0, 200, .inl (av bt)))]) (fun (r : Int32) (u : Int32 × Int) => match u with | (heard2, at2) => (r = (zb (rOk bt len at_))) ∧ (rOk bt len at_ = true → at2 = rP bt len at_ ∧ RS heard2 (adds f (nV bt len at_) (rH bt len at_)))) := by
  refine Ci_intro (cc := cX4_readRange) (maxL := 4) (ret := (some .boolean)) (by decide) rfl (Nat.le_of_ble_eq_true rfl) ?_
  intro p e s m below meth c A F hA hP hD hK hE ls hl
  have hX_ := F.1
  have hB_ := F.2.1
  have hts := F.2.2.2.2.2.1
  have hown := F.2.2.2.2.1
  have hml := F.2.2.2.1
  have hS : va_S A s.heap s.heap [] := va_S.rf
  have hl : lv_has ls 4 [(0, .ref h)] := hl
  refine lv_aload_n hX_ hB_ dX4_readRange_0 rfl (lv_at hl 0 rfl) ?_
  refine back_i (wr := []) (run_V (As := []) (rest := []) (wc := [(h, .inr (2, [.ref sA, .int (iz size), .int (iz fault), .ref bA, .int (iz len), .int (iz at_), .int heard])), (sA, .inl (G.2 0, 11, .inl (rv st))), (bA, .inl (G.2 0, 200, .inl (av bt)))]) F (c_X4_readNumber l G h sA bA st size fault len at_ heard bt (by omega) (by omega) _) ext0 gX4_readRange_X4_readNumber rfl rfl rfl mdv_X4_readNumber ⟨Nat.le_of_ble_eq_true rfl, Nat.le_of_ble_eq_true rfl⟩ (va_recv hK.1 (hP.sub (ws' := [(h, .inr (2, [.ref sA, .int (iz size), .int (iz fault), .ref bA, .int (iz len), .int (iz at_), .int heard])), (sA, .inl (G.2 0, 11, .inl (rv st))), (bA, .inl (G.2 0, 200, .inl (av bt)))]) [0, 1, 2] rfl) (ci := 2) (q0 := 0) rfl rfl) (pre_of ext0 hK hP hD hS hA trivial [0, 1, 2] (by decide) rfl _) rfl hl.1 (Nat.le_of_ble_eq_true rfl) dX4_readRange_1 ⟨by decide, by decide⟩) hP hD hS hA [0, 1, 2] [] rfl rfl (by decide) (by decide) (fun r__ u__ H locs hw hP hD hS => ?_)
  subst hw
  have hP := hP.sub (ws' := [(h, .inr (2, [.ref sA, .int (iz size), .int (iz (if nOk bt len at_ then fault else nP bt len at_)), .ref bA, .int (iz len), .int (iz (nP bt len at_)), .int heard])), (sA, .inl (G.2 0, 11, .inl (rv st))), (bA, .inl (G.2 0, 200, .inl (av bt)))]) [0, 1, 2] rfl
  have hD := hD.sub (ws' := [(h, .inr (2, [.ref sA, .int (iz size), .int (iz (if nOk bt len at_ then fault else nP bt len at_)), .ref bA, .int (iz len), .int (iz (nP bt len at_)), .int heard])), (sA, .inl (G.2 0, 11, .inl (rv st))), (bA, .inl (G.2 0, 200, .inl (av bt)))]) [0, 1, 2] (by decide) rfl
  have hn1 := nP_rng (bt := bt) (a := at_) (n := len) (by omega)
  have hv4 : R31 (if nOk bt len at_ then nV bt len at_ else -1) := by split; (have := nV_rng (bt := bt) (by assumption); omega); omega
  refine lv_istore_n (lv' := [(1, .int (iz (if nOk bt len at_ then nV bt len at_ else -1))), (0, .ref h)]) hX_ hB_ dX4_readRange_4 rfl hl (by decide) rfl (fun ls hl => ?_)
  refine lv_iload_n hX_ hB_ dX4_readRange_5 rfl (lv_at hl 0 rfl) ?_
  refine zk_if_ge (tgt := 11) hX_ hB_ (by omega) dX4_readRange_6 (by decide) (fun c_6 => ?_) (fun c_6 => ?_)
  · skip
    have hk1 : nOk bt len at_ = true := by cases q : nOk bt len at_; (rw [q] at c_6; simp at c_6); rfl
    have hv1 := nV_rng hk1
    have e_rep : (if nOk bt len at_ then nV bt len at_ else -1) = (nV bt len at_) := by rw [hk1]; rfl
    rw [e_rep] at hl
    have e_rep : (if nOk bt len at_ then fault else nP bt len at_) = fault := by rw [hk1]; rfl
    rw [e_rep] at hP hD
    refine lv_iload_n hX_ hB_ dX4_readRange_11 rfl (lv_at hl 0 rfl) ?_
    refine lv_istore_n (lv' := [(2, .int (iz (nV bt len at_))), (1, .int (iz (nV bt len at_))), (0, .ref h)]) hX_ hB_ dX4_readRange_12 rfl hl (by decide) rfl (fun ls hl => ?_)
    have join_53 : ∀ (hh : Int) (aa : Int), (rOk bt len at_ = true) → (hh = rH bt len at_) → (aa = rP bt len at_) → (nV bt len at_ ≤ hh ∧ hh ≤ 99) → ∀ (H : Heap) (locs : List Loc), va_P G.1 vwCl [(h, .inr (2, [.ref sA, .int (iz size), .int (iz fault), .ref bA, .int (iz len), .int (iz aa), .int heard])), (sA, .inl (G.2 0, 11, .inl (rv st))), (bA, .inl (G.2 0, 200, .inl (av bt)))] H → va_D A [(h, .inr (2, [.ref sA, .int (iz size), .int (iz fault), .ref bA, .int (iz len), .int (iz aa), .int heard])), (sA, .inl (G.2 0, 11, .inl (rv st))), (bA, .inl (G.2 0, 200, .inl (av bt)))] → va_S A s.heap H locs → ∀ ls : Array Slot, lv_has ls 4 [(0, .ref h), (1, .int (iz (nV bt len at_))), (2, .int (iz hh))] → W p l e ({ frames := 2, cells := 0, slots := 0, locals := 43 }) s m ([.ref h] : List Value).toArray below meth c H locs 0 0 (MQ below (va_Qi (fun (r : Int32) (u : Int32 × Int) => match u with | (heard2, at2) => (r = (zb (rOk bt len at_))) ∧ (rOk bt len at_ = true → at2 = rP bt len at_ ∧ RS heard2 (adds f (nV bt len at_) (rH bt len at_)))) (fun u__ t__ => Pst G A ((fun u : Int32 × Int => match u with | (heard2, at2) => [(h, .inr (2, [.ref sA, .int (iz size), .int (iz (if rOk bt len at_ then fault else rP bt len at_)), .ref bA, .int (iz len), .int (iz at2), .int heard2])), (sA, .inl (G.2 0, 11, .inl (rv st))), (bA, .inl (G.2 0, 200, .inl (av bt)))]) u__) t__) A) ([.ref h] : List Value).toArray s 0 0 A) (F0 m 53 ls []) := by
      intro hh aa hok ehh eaa hhr H locs hP hD hS ls hl
      refine lv_iload_n hX_ hB_ dX4_readRange_53 rfl (lv_at hl 1 rfl) ?_
      refine lv_istore_n (lv' := [(3, .int (iz (nV bt len at_))), (0, .ref h), (1, .int (iz (nV bt len at_))), (2, .int (iz hh))]) hX_ hB_ dX4_readRange_54 rfl hl (by decide) rfl (fun ls hl => ?_)
      have loop_55 : ∀ (n_55 : Nat), ∀ (v : Int) (hd : Int32), (nV bt len at_ ≤ v ∧ v ≤ hh + 1 ∧ v ≤ 100) → (RS hd (adds f (nV bt len at_) (v - 1))) → ((100 - v).toNat < n_55) → ∀ (H : Heap) (locs : List Loc), va_P G.1 vwCl [(h, .inr (2, [.ref sA, .int (iz size), .int (iz fault), .ref bA, .int (iz len), .int (iz aa), .int hd])), (sA, .inl (G.2 0, 11, .inl (rv st))), (bA, .inl (G.2 0, 200, .inl (av bt)))] H → va_D A [(h, .inr (2, [.ref sA, .int (iz size), .int (iz fault), .ref bA, .int (iz len), .int (iz aa), .int hd])), (sA, .inl (G.2 0, 11, .inl (rv st))), (bA, .inl (G.2 0, 200, .inl (av bt)))] → va_S A s.heap H locs → ∀ ls : Array Slot, lv_has ls 4 [(0, .ref h), (1, .int (iz (nV bt len at_))), (2, .int (iz hh)), (3, .int (iz v))] → W p l e ({ frames := 2, cells := 0, slots := 0, locals := 43 }) s m ([.ref h] : List Value).toArray below meth c H locs 0 0 (MQ below (va_Qi (fun (r : Int32) (u : Int32 × Int) => match u with | (heard2, at2) => (r = (zb (rOk bt len at_))) ∧ (rOk bt len at_ = true → at2 = rP bt len at_ ∧ RS heard2 (adds f (nV bt len at_) (rH bt len at_)))) (fun u__ t__ => Pst G A ((fun u : Int32 × Int => match u with | (heard2, at2) => [(h, .inr (2, [.ref sA, .int (iz size), .int (iz (if rOk bt len at_ then fault else rP bt len at_)), .ref bA, .int (iz len), .int (iz at2), .int heard2])), (sA, .inl (G.2 0, 11, .inl (rv st))), (bA, .inl (G.2 0, 200, .inl (av bt)))]) u__) t__) A) ([.ref h] : List Value).toArray s 0 0 A) (F0 m 55 ls []) := by
        intro n_55
        induction n_55 with
        | zero =>
          intro v hd hi hrs hm H locs hP hD hS ls hl
          exact absurd hm (Nat.not_lt_zero _)
        | succ n_55 ih_55 =>
          intro v hd hi hrs hm H locs hP hD hS ls hl
          refine lv_iload_n hX_ hB_ dX4_readRange_55 rfl (lv_at hl 3 rfl) ?_
          refine lv_iload_n hX_ hB_ dX4_readRange_56 rfl (lv_at hl 2 rfl) ?_
          refine zk_icmp_gt (tgt := 84) hX_ hB_ (by omega) (by omega) dX4_readRange_57 (by decide) (fun c_57 => ?_) (fun c_57 => ?_)
          · skip
            refine zk_iconst hX_ hB_ dX4_readRange_84 ?_
            refine zk_topi (y := zb true) rfl ?_
            exact fin_i (wf := (fun u : Int32 × Int => match u with | (heard2, at2) => [(h, .inr (2, [.ref sA, .int (iz size), .int (iz (if rOk bt len at_ then fault else rP bt len at_)), .ref bA, .int (iz len), .int (iz at2), .int heard2])), (sA, .inl (G.2 0, 11, .inl (rv st))), (bA, .inl (G.2 0, 200, .inl (av bt)))])) (hd, aa) F (zb_nar _) (by (try dsimp only); rw [hok]; exact hP) (by (try dsimp only); rw [hok]; exact hD) hK hS (by decide) (by decide) dX4_readRange_85 (by exact ⟨by rw [hok], fun _ => ⟨eaa, by rw [← ehh]; exact RS_more hrs (by omega) (by omega)⟩⟩)
          · skip
            refine lv_iload_n hX_ hB_ dX4_readRange_60 rfl (lv_at hl 3 rfl) ?_
            refine zk_bipush hX_ hB_ (by decide) dX4_readRange_61 ?_
            refine zk_icmp_ge (tgt := 84) hX_ hB_ (by omega) (by omega) dX4_readRange_63 (by decide) (fun c_63 => ?_) (fun c_63 => ?_)
            · skip
              refine zk_iconst hX_ hB_ dX4_readRange_84 ?_
              refine zk_topi (y := zb true) rfl ?_
              exact fin_i (wf := (fun u : Int32 × Int => match u with | (heard2, at2) => [(h, .inr (2, [.ref sA, .int (iz size), .int (iz (if rOk bt len at_ then fault else rP bt len at_)), .ref bA, .int (iz len), .int (iz at2), .int heard2])), (sA, .inl (G.2 0, 11, .inl (rv st))), (bA, .inl (G.2 0, 200, .inl (av bt)))])) (hd, aa) F (zb_nar _) (by (try dsimp only); rw [hok]; exact hP) (by (try dsimp only); rw [hok]; exact hD) hK hS (by decide) (by decide) dX4_readRange_85 (by exact ⟨by rw [hok], fun _ => ⟨eaa, by rw [← ehh]; exact RS_more hrs (by omega) (by omega)⟩⟩)
            · skip
              refine lv_aload_n hX_ hB_ dX4_readRange_66 rfl (lv_at hl 0 rfl) ?_
              refine lv_dup hX_ hB_ dX4_readRange_67 rfl ?_
              refine va_get (D := G.1) (ci := 2) (v := .int hd) (C := RX4) (T := TX4) (N := 7) hX_ hB_ hts hi_X4_readRange_X4 hown hK.1 hP 0 rfl rfl 6 (by decide) (hts _ hw_X4_readRange_897535) (fun _ h9 => h9) rfl dX4_readRange_68 ?_
              refine zk_iconst hX_ hB_ dX4_readRange_71 ?_
              refine lv_iload_n hX_ hB_ dX4_readRange_72 rfl (lv_at hl 3 rfl) ?_
              refine lv_ishl hX_ hB_ dX4_readRange_73 ?_
              refine lv_ior hX_ hB_ dX4_readRange_74 ?_
              refine va_put (D := G.1) (ci := 2) (v := .int (hd ||| ((iz 1) <<< ((iz v) &&& 31)))) (ty := .int) (C := RX4) (T := TX4) (N := 7) hX_ hB_ hts hi_X4_readRange_X4 tyX4 tyX4_ok nmX4 hown hK.1 hP hD hS 0 rfl rfl 6 (by decide) (hts _ hw_X4_readRange_897535) (fun _ h9 => h9) rfl (by decide +kernel) rfl rfl (Nat.le_of_ble_eq_true rfl) dX4_readRange_75 (fun H locs hP hD hS => ?_)
              have hP : va_P G.1 vwCl [(h, .inr (2, [.ref sA, .int (iz size), .int (iz fault), .ref bA, .int (iz len), .int (iz aa), .int (hd ||| ((iz 1) <<< ((iz v) &&& 31)))])), (sA, .inl (G.2 0, 11, .inl (rv st))), (bA, .inl (G.2 0, 200, .inl (av bt)))] _ := hP
              have hD : va_D A [(h, .inr (2, [.ref sA, .int (iz size), .int (iz fault), .ref bA, .int (iz len), .int (iz aa), .int (hd ||| ((iz 1) <<< ((iz v) &&& 31)))])), (sA, .inl (G.2 0, 11, .inl (rv st))), (bA, .inl (G.2 0, 200, .inl (av bt)))] := hD
              refine lv_iinc (v := (iz (v + 1))) (lv' := [(3, .int (iz (v + 1))), (0, .ref h), (1, .int (iz (nV bt len at_))), (2, .int (iz hh))]) hX_ hB_ dX4_readRange_78 hl (k := 3) rfl (iz_add _ _) (by decide) rfl (fun ls hl => ?_)
              refine lv_goto (tgt := 55) hX_ hB_ dX4_readRange_81 (by decide) ?_
              exact ih_55 (v + 1) (hd ||| ((iz 1) <<< ((iz v) &&& 31))) (by omega) (by rw [show v + 1 - 1 = v from by omega]; exact RS_step (by omega) (by omega) hrs) (by omega) _ _ hP hD hS ls (lv_sub hl [1, 2, 3, 0] rfl)
      exact loop_55 _ (nV bt len at_) heard (by omega) (by exact RS_none hr) (Nat.lt_succ_self _) _ _ hP hD hS ls (lv_sub hl [1, 2, 3, 0] rfl)
    refine lv_aload_n hX_ hB_ dX4_readRange_13 rfl (lv_at hl 2 rfl) ?_
    refine zk_bipush hX_ hB_ (by decide) dX4_readRange_14 ?_
    refine back_i (wr := []) (run_V (As := [.int (iz 45)]) (rest := []) (wc := [(h, .inr (2, [.ref sA, .int (iz size), .int (iz fault), .ref bA, .int (iz len), .int (iz (nP bt len at_)), .int heard])), (sA, .inl (G.2 0, 11, .inl (rv st))), (bA, .inl (G.2 0, 200, .inl (av bt)))]) F (c_X4_takes l G h sA bA st size fault len (nP bt len at_) heard bt 45 (by omega) (by omega) (by omega) _) ext0 gX4_readRange_X4_takes rfl rfl rfl mdv_X4_takes ⟨Nat.le_of_ble_eq_true rfl, Nat.le_of_ble_eq_true rfl⟩ (va_recv hK.1 (hP.sub (ws' := [(h, .inr (2, [.ref sA, .int (iz size), .int (iz fault), .ref bA, .int (iz len), .int (iz (nP bt len at_)), .int heard])), (sA, .inl (G.2 0, 11, .inl (rv st))), (bA, .inl (G.2 0, 200, .inl (av bt)))]) [0, 1, 2] rfl) (ci := 2) (q0 := 0) rfl rfl) (pre_of ext0 hK hP hD hS hA trivial [0, 1, 2] (by decide) rfl _) rfl hl.1 (Nat.le_of_ble_eq_true rfl) dX4_readRange_16 ⟨by decide, by decide⟩) hP hD hS hA [0, 1, 2] [] rfl rfl (by decide) (by decide) (fun r__ u__ H locs hw hP hD hS => ?_)
    subst hw
    have hP := hP.sub (ws' := [(h, .inr (2, [.ref sA, .int (iz size), .int (iz fault), .ref bA, .int (iz len), .int (iz (tkP bt len 45 (nP bt len at_))), .int heard])), (sA, .inl (G.2 0, 11, .inl (rv st))), (bA, .inl (G.2 0, 200, .inl (av bt)))]) [0, 1, 2] rfl
    have hD := hD.sub (ws' := [(h, .inr (2, [.ref sA, .int (iz size), .int (iz fault), .ref bA, .int (iz len), .int (iz (tkP bt len 45 (nP bt len at_))), .int heard])), (sA, .inl (G.2 0, 11, .inl (rv st))), (bA, .inl (G.2 0, 200, .inl (av bt)))]) [0, 1, 2] (by decide) rfl
    have hn2 := tkP_rng (bt := bt) (c := 45) (a := nP bt len at_) (n := len) (by omega)
    refine zk_bif_eq (tgt := 53) hX_ hB_ dX4_readRange_19 (by decide) (fun c_19 => ?_) (fun c_19 => ?_)
    · skip
      exact join_53 (nV bt len at_) (tkP bt len 45 (nP bt len at_)) (by unfold rOk rB; rw [hk1, c_19]; rfl) (by unfold rH rB; rw [c_19]; rfl) (by unfold rP rB rQ; rw [hk1, c_19]; rfl) (by omega) _ _ hP hD hS ls (lv_sub hl [2, 1, 0] rfl)
    · skip
      refine lv_aload_n hX_ hB_ dX4_readRange_22 rfl (lv_at hl 2 rfl) ?_
      refine back_v (wr := []) (run_V (As := []) (rest := []) (wc := [(h, .inr (2, [.ref sA, .int (iz size), .int (iz fault), .ref bA, .int (iz len), .int (iz (tkP bt len 45 (nP bt len at_))), .int heard])), (sA, .inl (G.2 0, 11, .inl (rv st))), (bA, .inl (G.2 0, 200, .inl (av bt)))]) F (c_X4_skipBlanks l G h sA bA st size fault len (tkP bt len 45 (nP bt len at_)) heard bt (by omega) (by omega) _) ext0 gX4_readRange_X4_skipBlanks rfl rfl rfl mdv_X4_skipBlanks ⟨Nat.le_of_ble_eq_true rfl, Nat.le_of_ble_eq_true rfl⟩ (va_recv hK.1 (hP.sub (ws' := [(h, .inr (2, [.ref sA, .int (iz size), .int (iz fault), .ref bA, .int (iz len), .int (iz (tkP bt len 45 (nP bt len at_))), .int heard])), (sA, .inl (G.2 0, 11, .inl (rv st))), (bA, .inl (G.2 0, 200, .inl (av bt)))]) [0, 1, 2] rfl) (ci := 2) (q0 := 0) rfl rfl) (pre_of ext0 hK hP hD hS hA trivial [0, 1, 2] (by decide) rfl _) rfl hl.1 (Nat.le_of_ble_eq_true rfl) dX4_readRange_23 ⟨by decide, by decide⟩) hP hD hS hA [0, 1, 2] [] rfl rfl (by decide) (by decide) (fun u__ H locs hw hP hD hS => ?_)
      have hw_23 := hw
      have hP := hP.sub (ws' := [(h, .inr (2, [.ref sA, .int (iz size), .int (iz fault), .ref bA, .int (iz len), .int (iz (sk bt len (tkP bt len 45 (nP bt len at_)))), .int heard])), (sA, .inl (G.2 0, 11, .inl (rv st))), (bA, .inl (G.2 0, 200, .inl (av bt)))]) [0, 1, 2] rfl
      have hD := hD.sub (ws' := [(h, .inr (2, [.ref sA, .int (iz size), .int (iz fault), .ref bA, .int (iz len), .int (iz (sk bt len (tkP bt len 45 (nP bt len at_)))), .int heard])), (sA, .inl (G.2 0, 11, .inl (rv st))), (bA, .inl (G.2 0, 200, .inl (av bt)))]) [0, 1, 2] (by decide) rfl
      have hn3 := sk_rng (bt := bt) (a := tkP bt len 45 (nP bt len at_)) (n := len) (by omega)
      refine lv_aload_n hX_ hB_ dX4_readRange_26 rfl (lv_at hl 2 rfl) ?_
      refine va_get (D := G.1) (ci := 2) (v := .int (iz (sk bt len (tkP bt len 45 (nP bt len at_))))) (C := RX4) (T := TX4) (N := 7) hX_ hB_ hts hi_X4_readRange_X4 hown hK.1 hP 0 rfl rfl 5 (by decide) (hts _ hw_X4_readRange_3794a9) (fun _ h9 => h9) rfl dX4_readRange_27 ?_
      refine lv_istore_n (lv' := [(3, .int (iz (sk bt len (tkP bt len 45 (nP bt len at_))))), (2, .int (iz (nV bt len at_))), (1, .int (iz (nV bt len at_))), (0, .ref h)]) hX_ hB_ dX4_readRange_30 rfl hl (by decide) rfl (fun ls hl => ?_)
      refine lv_aload_n hX_ hB_ dX4_readRange_31 rfl (lv_at hl 3 rfl) ?_
      refine back_i (wr := []) (run_V (As := []) (rest := []) (wc := [(h, .inr (2, [.ref sA, .int (iz size), .int (iz fault), .ref bA, .int (iz len), .int (iz (sk bt len (tkP bt len 45 (nP bt len at_)))), .int heard])), (sA, .inl (G.2 0, 11, .inl (rv st))), (bA, .inl (G.2 0, 200, .inl (av bt)))]) F (c_X4_readNumber l G h sA bA st size fault len (sk bt len (tkP bt len 45 (nP bt len at_))) heard bt (by omega) (by omega) _) ext0 gX4_readRange_X4_readNumber rfl rfl rfl mdv_X4_readNumber ⟨Nat.le_of_ble_eq_true rfl, Nat.le_of_ble_eq_true rfl⟩ (va_recv hK.1 (hP.sub (ws' := [(h, .inr (2, [.ref sA, .int (iz size), .int (iz fault), .ref bA, .int (iz len), .int (iz (sk bt len (tkP bt len 45 (nP bt len at_)))), .int heard])), (sA, .inl (G.2 0, 11, .inl (rv st))), (bA, .inl (G.2 0, 200, .inl (av bt)))]) [0, 1, 2] rfl) (ci := 2) (q0 := 0) rfl rfl) (pre_of ext0 hK hP hD hS hA trivial [0, 1, 2] (by decide) rfl _) rfl hl.1 (Nat.le_of_ble_eq_true rfl) dX4_readRange_32 ⟨by decide, by decide⟩) hP hD hS hA [0, 1, 2] [] rfl rfl (by decide) (by decide) (fun r__ u__ H locs hw hP hD hS => ?_)
      subst hw
      have hP := hP.sub (ws' := [(h, .inr (2, [.ref sA, .int (iz size), .int (iz (if nOk bt len (sk bt len (tkP bt len 45 (nP bt len at_))) then fault else nP bt len (sk bt len (tkP bt len 45 (nP bt len at_))))), .ref bA, .int (iz len), .int (iz (nP bt len (sk bt len (tkP bt len 45 (nP bt len at_))))), .int heard])), (sA, .inl (G.2 0, 11, .inl (rv st))), (bA, .inl (G.2 0, 200, .inl (av bt)))]) [0, 1, 2] rfl
      have hD := hD.sub (ws' := [(h, .inr (2, [.ref sA, .int (iz size), .int (iz (if nOk bt len (sk bt len (tkP bt len 45 (nP bt len at_))) then fault else nP bt len (sk bt len (tkP bt len 45 (nP bt len at_))))), .ref bA, .int (iz len), .int (iz (nP bt len (sk bt len (tkP bt len 45 (nP bt len at_))))), .int heard])), (sA, .inl (G.2 0, 11, .inl (rv st))), (bA, .inl (G.2 0, 200, .inl (av bt)))]) [0, 1, 2] (by decide) rfl
      have hn4 := nP_rng (bt := bt) (a := sk bt len (tkP bt len 45 (nP bt len at_))) (n := len) (by omega)
      have hv35 : R31 (if nOk bt len (sk bt len (tkP bt len 45 (nP bt len at_))) then nV bt len (sk bt len (tkP bt len 45 (nP bt len at_))) else -1) := by split; (have := nV_rng (bt := bt) (by assumption); omega); omega
      refine lv_istore_n (lv' := [(2, .int (iz (if nOk bt len (sk bt len (tkP bt len 45 (nP bt len at_))) then nV bt len (sk bt len (tkP bt len 45 (nP bt len at_))) else -1))), (3, .int (iz (sk bt len (tkP bt len 45 (nP bt len at_))))), (1, .int (iz (nV bt len at_))), (0, .ref h)]) hX_ hB_ dX4_readRange_35 rfl hl (by decide) rfl (fun ls hl => ?_)
      refine lv_iload_n hX_ hB_ dX4_readRange_36 rfl (lv_at hl 0 rfl) ?_
      refine zk_if_ge (tgt := 42) hX_ hB_ (by omega) dX4_readRange_37 (by decide) (fun c_37 => ?_) (fun c_37 => ?_)
      · skip
        have hk2 : nOk bt len (sk bt len (tkP bt len 45 (nP bt len at_))) = true := by cases q : nOk bt len (sk bt len (tkP bt len 45 (nP bt len at_))); (rw [q] at c_37; simp at c_37); rfl
        have hv2 := nV_rng hk2
        have hk3 : nOk bt len (rQ bt len at_) = true := by rw [← nOk_sk]; exact hk2
        have e_rep : (if nOk bt len (sk bt len (tkP bt len 45 (nP bt len at_))) then nV bt len (sk bt len (tkP bt len 45 (nP bt len at_))) else -1) = (nV bt len (sk bt len (tkP bt len 45 (nP bt len at_)))) := by rw [hk2]; rfl
        rw [e_rep] at hl
        have e_rep : (if nOk bt len (sk bt len (tkP bt len 45 (nP bt len at_))) then fault else nP bt len (sk bt len (tkP bt len 45 (nP bt len at_)))) = fault := by rw [hk2]; rfl
        rw [e_rep] at hP hD
        refine lv_iload_n hX_ hB_ dX4_readRange_42 rfl (lv_at hl 0 rfl) ?_
        refine lv_iload_n hX_ hB_ dX4_readRange_43 rfl (lv_at hl 2 rfl) ?_
        refine zk_icmp_ge (tgt := 53) hX_ hB_ (by omega) (by omega) dX4_readRange_44 (by decide) (fun c_44 => ?_) (fun c_44 => ?_)
        · skip
          exact join_53 (nV bt len (sk bt len (tkP bt len 45 (nP bt len at_)))) (nP bt len (sk bt len (tkP bt len 45 (nP bt len at_)))) (by unfold rOk rB; rw [hk1, c_19, hk3]; rw [nV_sk] at c_44; unfold rQ; simp; omega) (by unfold rH rB; rw [c_19, nV_sk]; rfl) (by unfold rP rB; rw [hk1, c_19, hk3]; rw [nV_sk] at c_44; simp only [if_true]; rw [if_neg (by unfold rQ; omega), nP_sk]; rfl) (by omega) _ _ hP hD hS ls (lv_sub hl [3, 2, 0] rfl)
        · skip
          refine lv_aload_n hX_ hB_ dX4_readRange_47 rfl (lv_at hl 3 rfl) ?_
          refine lv_iload_n hX_ hB_ dX4_readRange_48 rfl (lv_at hl 1 rfl) ?_
          refine back_i (wr := []) (run_V (As := [.int (iz (sk bt len (tkP bt len 45 (nP bt len at_))))]) (rest := []) (wc := [(h, .inr (2, [.ref sA, .int (iz size), .int (iz fault), .ref bA, .int (iz len), .int (iz (nP bt len (sk bt len (tkP bt len 45 (nP bt len at_))))), .int heard])), (sA, .inl (G.2 0, 11, .inl (rv st))), (bA, .inl (G.2 0, 200, .inl (av bt)))]) F (c_X4_refuse l G h sA bA st size fault len (nP bt len (sk bt len (tkP bt len 45 (nP bt len at_)))) heard bt (sk bt len (tkP bt len 45 (nP bt len at_))) _) ext0 gX4_readRange_X4_refuse rfl rfl rfl mdv_X4_refuse ⟨Nat.le_of_ble_eq_true rfl, Nat.le_of_ble_eq_true rfl⟩ (va_recv hK.1 (hP.sub (ws' := [(h, .inr (2, [.ref sA, .int (iz size), .int (iz fault), .ref bA, .int (iz len), .int (iz (nP bt len (sk bt len (tkP bt len 45 (nP bt len at_))))), .int heard])), (sA, .inl (G.2 0, 11, .inl (rv st))), (bA, .inl (G.2 0, 200, .inl (av bt)))]) [0, 1, 2] rfl) (ci := 2) (q0 := 0) rfl rfl) (pre_of ext0 hK hP hD hS hA trivial [0, 1, 2] (by decide) rfl _) rfl hl.1 (Nat.le_of_ble_eq_true rfl) dX4_readRange_49 ⟨by decide, by decide⟩) hP hD hS hA [0, 1, 2] [] rfl rfl (by decide) (by decide) (fun r__ u__ H locs hw hP hD hS => ?_)
          subst hw
          have hP := hP.sub (ws' := [(h, .inr (2, [.ref sA, .int (iz size), .int (iz (sk bt len (tkP bt len 45 (nP bt len at_)))), .ref bA, .int (iz len), .int (iz (nP bt len (sk bt len (tkP bt len 45 (nP bt len at_))))), .int heard])), (sA, .inl (G.2 0, 11, .inl (rv st))), (bA, .inl (G.2 0, 200, .inl (av bt)))]) [0, 1, 2] rfl
          have hD := hD.sub (ws' := [(h, .inr (2, [.ref sA, .int (iz size), .int (iz (sk bt len (tkP bt len 45 (nP bt len at_)))), .ref bA, .int (iz len), .int (iz (nP bt len (sk bt len (tkP bt len 45 (nP bt len at_))))), .int heard])), (sA, .inl (G.2 0, 11, .inl (rv st))), (bA, .inl (G.2 0, 200, .inl (av bt)))]) [0, 1, 2] (by decide) rfl
          have eo : rOk bt len at_ = false := by unfold rOk rB; rw [hk1, c_19, hk3]; rw [nV_sk] at c_44; unfold rQ; simp; omega
          have ep : rP bt len at_ = sk bt len (tkP bt len 45 (nP bt len at_)) := by unfold rP rB; rw [hk1, c_19, hk3]; rw [nV_sk] at c_44; simp only [if_true]; rw [if_pos (by unfold rQ; omega)]; rfl
          exact fin_i (wf := (fun u : Int32 × Int => match u with | (heard2, at2) => [(h, .inr (2, [.ref sA, .int (iz size), .int (iz (if rOk bt len at_ then fault else rP bt len at_)), .ref bA, .int (iz len), .int (iz at2), .int heard2])), (sA, .inl (G.2 0, 11, .inl (rv st))), (bA, .inl (G.2 0, 200, .inl (av bt)))])) (heard, nP bt len (sk bt len (tkP bt len 45 (nP bt len at_)))) F (zb_nar _) (by (try dsimp only); rw [eo, ep]; exact hP) (by (try dsimp only); rw [eo, ep]; exact hD) hK hS (by decide) (by decide) dX4_readRange_52 (by exact ⟨by rw [eo], fun q => by rw [eo] at q; cases q⟩)
      · skip
        refine zk_iconst hX_ hB_ dX4_readRange_40 ?_
        have hk2 : nOk bt len (sk bt len (tkP bt len 45 (nP bt len at_))) = false := by cases q : nOk bt len (sk bt len (tkP bt len 45 (nP bt len at_))); rfl; (exfalso; have q2 := nV_rng q; rw [q] at c_37; simp at c_37; omega)
        have hk3 : nOk bt len (rQ bt len at_) = false := by rw [← nOk_sk]; exact hk2
        have eo : rOk bt len at_ = false := by unfold rOk rB; rw [hk1, c_19, hk3]; rfl
        have ep : rP bt len at_ = nP bt len (sk bt len (tkP bt len 45 (nP bt len at_))) := by unfold rP rB; rw [hk1, c_19, hk3, nP_sk]; rfl
        rw [hk2] at hP hD
        refine zk_topi (y := zb false) rfl ?_
        exact fin_i (wf := (fun u : Int32 × Int => match u with | (heard2, at2) => [(h, .inr (2, [.ref sA, .int (iz size), .int (iz (if rOk bt len at_ then fault else rP bt len at_)), .ref bA, .int (iz len), .int (iz at2), .int heard2])), (sA, .inl (G.2 0, 11, .inl (rv st))), (bA, .inl (G.2 0, 200, .inl (av bt)))])) (heard, nP bt len (sk bt len (tkP bt len 45 (nP bt len at_)))) F (zb_nar _) (by (try dsimp only); rw [eo, ep]; exact hP) (by (try dsimp only); rw [eo, ep]; exact hD) hK hS (by decide) (by decide) dX4_readRange_41 (by exact ⟨by rw [eo], fun q => by rw [eo] at q; cases q⟩)
  · skip
    refine zk_iconst hX_ hB_ dX4_readRange_9 ?_
    have hk1 : nOk bt len at_ = false := by cases q : nOk bt len at_; rfl; (exfalso; have q2 := nV_rng q; rw [q] at c_6; simp at c_6; omega)
    have eo : rOk bt len at_ = false := by unfold rOk; rw [hk1]; rfl
    have ep : rP bt len at_ = nP bt len at_ := by unfold rP; rw [hk1]; rfl
    rw [hk1] at hP hD
    refine zk_topi (y := zb false) rfl ?_
    exact fin_i (wf := (fun u : Int32 × Int => match u with | (heard2, at2) => [(h, .inr (2, [.ref sA, .int (iz size), .int (iz (if rOk bt len at_ then fault else rP bt len at_)), .ref bA, .int (iz len), .int (iz at2), .int heard2])), (sA, .inl (G.2 0, 11, .inl (rv st))), (bA, .inl (G.2 0, 200, .inl (av bt)))])) (heard, nP bt len at_) F (zb_nar _) (by (try dsimp only); rw [eo, ep]; exact hP) (by (try dsimp only); rw [eo, ep]; exact hD) hK hS (by decide) (by decide) dX4_readRange_10 (by exact ⟨by rw [eo], fun q => by rw [eo] at q; cases q⟩)

theorem hw_X4_readPart_897535 : (.fieldLink RX4 101 "StoneDates$Reader" "heard" "I" : Cond) ∈ wsX4_readPart := by decide +kernel
theorem hi_X4_readPart_X4 : ∀ w ∈ u_ws RX4 TX4 7, w ∈ wsX4_readPart := by decide +kernel
theorem mdv_X4_readRange : yX4_readRange.cls = RX4 ∧ yX4_readRange.cls ≠ "java/lang/invoke/MethodHandle" ∧ yX4_readRange.cls ≠ "java/lang/invoke/VarHandle" ∧ (parseMethodDescriptor yX4_readRange.desc).map (fun d => d.parameters.length) = some 0 := by decide +kernel
set_option maxHeartbeats 4000000 in
set_option maxRecDepth 100000 in
theorem c_X4_readPart (l : Launch) (G : GG) (h : Nat) (sA : Nat) (bA : Nat) (st : Int → Int32) (size : Int) (fault : Int) (len : Int) (at_ : Int) (heard : Int32) (bt : Int → Int) (ha : 0 ≤ at_ ∧ at_ ≤ len ∧ len ≤ 200) (hB : ∀ k : Int, 0 ≤ bt k ∧ bt k ≤ 255) : Ci l yX4_readPart wsX4_readPart ({ frames := 3, cells := 0, slots := 0, locals := 66 }) G E0 [.ref h] [(h, .inr (2, [.ref sA, .int (iz size), .int (iz fault), .ref bA, .int (iz len), .int (iz at_), .int heard])), (sA, .inl (G.2 0, 11, .inl (rv st))), (bA, .inl (G.2 0, 200, .inl (av bt)))] 0 0 (fun u : Int32 × Int => match u with | (heard2, at2) => [(h, .inr (2, [.ref sA, .int (iz size), .int (iz (if (part bt len at_).1 then fault else (part bt len at_).2.1)), .ref bA, .int (iz len), .int (iz at2), .int heard2])), (sA, .inl (G.2 0, 11, .inl (rv st))), (bA, .inl (G.2 0, 200, .inl (av bt)))]) (fun (r : Int32) (u : Int32 × Int) => match u with | (heard2, at2) => (r = (zb ((part bt len at_).1))) ∧ ((part bt len at_).1 = true → at2 = (part bt len at_).2.1 ∧ RS heard2 (part bt len at_).2.2)) := by
  refine Ci_intro (cc := cX4_readPart) (maxL := 2) (ret := (some .boolean)) (by decide) rfl (Nat.le_of_ble_eq_true rfl) ?_
  intro p e s m below meth c A F hA hP hD hK hE ls hl
  have hX_ := F.1
  have hB_ := F.2.1
  have hts := F.2.2.2.2.2.1
  have hown := F.2.2.2.2.1
  have hml := F.2.2.2.1
  have hS : va_S A s.heap s.heap [] := va_S.rf
  have hl : lv_has ls 2 [(0, .ref h)] := hl
  refine lv_aload_n hX_ hB_ dX4_readPart_0 rfl (lv_at hl 0 rfl) ?_
  refine zk_bipush hX_ hB_ (by decide) dX4_readPart_1 ?_
  refine back_i (wr := []) (run_V (As := [.int (iz 63)]) (rest := []) (wc := [(h, .inr (2, [.ref sA, .int (iz size), .int (iz fault), .ref bA, .int (iz len), .int (iz at_), .int heard])), (sA, .inl (G.2 0, 11, .inl (rv st))), (bA, .inl (G.2 0, 200, .inl (av bt)))]) F (c_X4_takes l G h sA bA st size fault len at_ heard bt 63 (by omega) (by omega) (by omega) _) ext0 gX4_readPart_X4_takes rfl rfl rfl mdv_X4_takes ⟨Nat.le_of_ble_eq_true rfl, Nat.le_of_ble_eq_true rfl⟩ (va_recv hK.1 (hP.sub (ws' := [(h, .inr (2, [.ref sA, .int (iz size), .int (iz fault), .ref bA, .int (iz len), .int (iz at_), .int heard])), (sA, .inl (G.2 0, 11, .inl (rv st))), (bA, .inl (G.2 0, 200, .inl (av bt)))]) [0, 1, 2] rfl) (ci := 2) (q0 := 0) rfl rfl) (pre_of ext0 hK hP hD hS hA trivial [0, 1, 2] (by decide) rfl _) rfl hl.1 (Nat.le_of_ble_eq_true rfl) dX4_readPart_3 ⟨by decide, by decide⟩) hP hD hS hA [0, 1, 2] [] rfl rfl (by decide) (by decide) (fun r__ u__ H locs hw hP hD hS => ?_)
  subst hw
  have hP := hP.sub (ws' := [(h, .inr (2, [.ref sA, .int (iz size), .int (iz fault), .ref bA, .int (iz len), .int (iz (tkP bt len 63 at_)), .int heard])), (sA, .inl (G.2 0, 11, .inl (rv st))), (bA, .inl (G.2 0, 200, .inl (av bt)))]) [0, 1, 2] rfl
  have hD := hD.sub (ws' := [(h, .inr (2, [.ref sA, .int (iz size), .int (iz fault), .ref bA, .int (iz len), .int (iz (tkP bt len 63 at_)), .int heard])), (sA, .inl (G.2 0, 11, .inl (rv st))), (bA, .inl (G.2 0, 200, .inl (av bt)))]) [0, 1, 2] (by decide) rfl
  have hn2 := tkP_rng (bt := bt) (c := 63) (a := at_) (n := len) (by omega)
  refine zk_bif_eq (tgt := 16) hX_ hB_ dX4_readPart_6 (by decide) (fun c_6 => ?_) (fun c_6 => ?_)
  · skip
    refine lv_aload_n hX_ hB_ dX4_readPart_16 rfl (lv_at hl 0 rfl) ?_
    refine zk_iconst hX_ hB_ dX4_readPart_17 ?_
    refine va_put (D := G.1) (ci := 2) (v := .int (iz 0)) (ty := .int) (C := RX4) (T := TX4) (N := 7) hX_ hB_ hts hi_X4_readPart_X4 tyX4 tyX4_ok nmX4 hown hK.1 hP hD hS 0 rfl rfl 6 (by decide) (hts _ hw_X4_readPart_897535) (fun _ h9 => h9) rfl (by decide +kernel) rfl rfl (Nat.le_of_ble_eq_true rfl) dX4_readPart_18 (fun H locs hP hD hS => ?_)
    have hP : va_P G.1 vwCl [(h, .inr (2, [.ref sA, .int (iz size), .int (iz fault), .ref bA, .int (iz len), .int (iz (tkP bt len 63 at_)), .int (iz 0)])), (sA, .inl (G.2 0, 11, .inl (rv st))), (bA, .inl (G.2 0, 200, .inl (av bt)))] _ := hP
    have hD : va_D A [(h, .inr (2, [.ref sA, .int (iz size), .int (iz fault), .ref bA, .int (iz len), .int (iz (tkP bt len 63 at_)), .int (iz 0)])), (sA, .inl (G.2 0, 11, .inl (rv st))), (bA, .inl (G.2 0, 200, .inl (av bt)))] := hD
    refine zk_iconst hX_ hB_ dX4_readPart_21 ?_
    refine lv_istore_n (lv' := [(1, .int (iz 0)), (0, .ref h)]) hX_ hB_ dX4_readPart_22 rfl hl (by decide) rfl (fun ls hl => ?_)
    have loop_23 : ∀ (n_23 : Nat), ∀ (i : Int) (a : Int) (hd : Int32) (ff : Int → Bool) (ft : Int), (0 ≤ i ∧ i ≤ 200) → (0 ≤ a ∧ a ≤ len) → (RS hd ff) → (ft = fault) → ((part bt len at_) = pt bt len (200 - i).toNat a ff) → ((200 - i).toNat < n_23) → ∀ (H : Heap) (locs : List Loc), va_P G.1 vwCl [(h, .inr (2, [.ref sA, .int (iz size), .int (iz ft), .ref bA, .int (iz len), .int (iz a), .int hd])), (sA, .inl (G.2 0, 11, .inl (rv st))), (bA, .inl (G.2 0, 200, .inl (av bt)))] H → va_D A [(h, .inr (2, [.ref sA, .int (iz size), .int (iz ft), .ref bA, .int (iz len), .int (iz a), .int hd])), (sA, .inl (G.2 0, 11, .inl (rv st))), (bA, .inl (G.2 0, 200, .inl (av bt)))] → va_S A s.heap H locs → ∀ ls : Array Slot, lv_has ls 2 [(0, .ref h), (1, .int (iz i))] → W p l e ({ frames := 3, cells := 0, slots := 0, locals := 66 }) s m ([.ref h] : List Value).toArray below meth c H locs 0 0 (MQ below (va_Qi (fun (r : Int32) (u : Int32 × Int) => match u with | (heard2, at2) => (r = (zb ((part bt len at_).1))) ∧ ((part bt len at_).1 = true → at2 = (part bt len at_).2.1 ∧ RS heard2 (part bt len at_).2.2)) (fun u__ t__ => Pst G A ((fun u : Int32 × Int => match u with | (heard2, at2) => [(h, .inr (2, [.ref sA, .int (iz size), .int (iz (if (part bt len at_).1 then fault else (part bt len at_).2.1)), .ref bA, .int (iz len), .int (iz at2), .int heard2])), (sA, .inl (G.2 0, 11, .inl (rv st))), (bA, .inl (G.2 0, 200, .inl (av bt)))]) u__) t__) A) ([.ref h] : List Value).toArray s 0 0 A) (F0 m 23 ls []) := by
      intro n_23
      induction n_23 with
      | zero =>
        intro i a hd ff ft hi hai hrs eft hp hm H locs hP hD hS ls hl
        exact absurd hm (Nat.not_lt_zero _)
      | succ n_23 ih_23 =>
        intro i a hd ff ft hi hai hrs eft hp hm H locs hP hD hS ls hl
        refine lv_iload_n hX_ hB_ dX4_readPart_23 rfl (lv_at hl 1 rfl) ?_
        refine zk_sipush hX_ hB_ (by decide) dX4_readPart_24 ?_
        refine zk_icmp_ge (tgt := 56) hX_ hB_ (by omega) (by omega) dX4_readPart_27 (by decide) (fun c_27 => ?_) (fun c_27 => ?_)
        · skip
          refine zk_iconst hX_ hB_ dX4_readPart_56 ?_
          have ei : i = 200 := by omega
          subst ei
          have ep : part bt len at_ = (true, a, ff) := hp
          rw [eft] at hP hD
          refine zk_topi (y := zb true) rfl ?_
          exact fin_i (wf := (fun u : Int32 × Int => match u with | (heard2, at2) => [(h, .inr (2, [.ref sA, .int (iz size), .int (iz (if (part bt len at_).1 then fault else (part bt len at_).2.1)), .ref bA, .int (iz len), .int (iz at2), .int heard2])), (sA, .inl (G.2 0, 11, .inl (rv st))), (bA, .inl (G.2 0, 200, .inl (av bt)))])) (hd, a) F (zb_nar _) (by (try dsimp only); rw [ep]; exact hP) (by (try dsimp only); rw [ep]; exact hD) hK hS (by decide) (by decide) dX4_readPart_57 (by exact ⟨by rw [ep], fun _ => by rw [ep]; exact ⟨rfl, hrs⟩⟩)
        · skip
          refine lv_aload_n hX_ hB_ dX4_readPart_30 rfl (lv_at hl 0 rfl) ?_
          refine back_i (wr := []) (run_V (As := []) (rest := []) (wc := [(h, .inr (2, [.ref sA, .int (iz size), .int (iz ft), .ref bA, .int (iz len), .int (iz a), .int hd])), (sA, .inl (G.2 0, 11, .inl (rv st))), (bA, .inl (G.2 0, 200, .inl (av bt)))]) F (c_X4_readRange l G h sA bA st size ft len a hd bt ff (by omega) (by omega) (by exact hrs) _) ext0 gX4_readPart_X4_readRange rfl rfl rfl mdv_X4_readRange ⟨Nat.le_of_ble_eq_true rfl, Nat.le_of_ble_eq_true rfl⟩ (va_recv hK.1 (hP.sub (ws' := [(h, .inr (2, [.ref sA, .int (iz size), .int (iz ft), .ref bA, .int (iz len), .int (iz a), .int hd])), (sA, .inl (G.2 0, 11, .inl (rv st))), (bA, .inl (G.2 0, 200, .inl (av bt)))]) [0, 1, 2] rfl) (ci := 2) (q0 := 0) rfl rfl) (pre_of ext0 hK hP hD hS hA trivial [0, 1, 2] (by decide) rfl _) rfl hl.1 (Nat.le_of_ble_eq_true rfl) dX4_readPart_31 ⟨by decide, by decide⟩) hP hD hS hA [0, 1, 2] [] rfl rfl (by decide) (by decide) (fun r__ u__ H locs hw hP hD hS => ?_)
          obtain ⟨hd2, a2⟩ := u__
          try dsimp only at hw hP hD
          obtain ⟨rfl, hw_31⟩ := hw
          have hP := hP.sub (ws' := [(h, .inr (2, [.ref sA, .int (iz size), .int (iz (if rOk bt len a then ft else rP bt len a)), .ref bA, .int (iz len), .int (iz a2), .int hd2])), (sA, .inl (G.2 0, 11, .inl (rv st))), (bA, .inl (G.2 0, 200, .inl (av bt)))]) [0, 1, 2] rfl
          have hD := hD.sub (ws' := [(h, .inr (2, [.ref sA, .int (iz size), .int (iz (if rOk bt len a then ft else rP bt len a)), .ref bA, .int (iz len), .int (iz a2), .int hd2])), (sA, .inl (G.2 0, 11, .inl (rv st))), (bA, .inl (G.2 0, 200, .inl (av bt)))]) [0, 1, 2] (by decide) rfl
          have hr1 := rP_rng (bt := bt) (a := a) (n := len) (by omega)
          have hr2 := tkP_rng (bt := bt) (c := 47) (a := rP bt len a) (n := len) (by omega)
          have hk : (200 - i).toNat = (200 - (i + 1)).toNat + 1 := by omega
          refine zk_bif_ne (tgt := 39) hX_ hB_ dX4_readPart_34 (by decide) (fun c_34 => ?_) (fun c_34 => ?_)
          · skip
            have e_rep : (a2) = (rP bt len a) := (hw_31 c_34).1
            rw [e_rep] at hP hD
            have e_rep : (if rOk bt len a then ft else rP bt len a) = ft := by rw [c_34]; rfl
            rw [e_rep] at hP hD
            refine lv_aload_n hX_ hB_ dX4_readPart_39 rfl (lv_at hl 0 rfl) ?_
            refine zk_bipush hX_ hB_ (by decide) dX4_readPart_40 ?_
            refine back_i (wr := []) (run_V (As := [.int (iz 47)]) (rest := []) (wc := [(h, .inr (2, [.ref sA, .int (iz size), .int (iz ft), .ref bA, .int (iz len), .int (iz (rP bt len a)), .int hd2])), (sA, .inl (G.2 0, 11, .inl (rv st))), (bA, .inl (G.2 0, 200, .inl (av bt)))]) F (c_X4_takes l G h sA bA st size ft len (rP bt len a) hd2 bt 47 (by omega) (by omega) (by omega) _) ext0 gX4_readPart_X4_takes rfl rfl rfl mdv_X4_takes ⟨Nat.le_of_ble_eq_true rfl, Nat.le_of_ble_eq_true rfl⟩ (va_recv hK.1 (hP.sub (ws' := [(h, .inr (2, [.ref sA, .int (iz size), .int (iz ft), .ref bA, .int (iz len), .int (iz (rP bt len a)), .int hd2])), (sA, .inl (G.2 0, 11, .inl (rv st))), (bA, .inl (G.2 0, 200, .inl (av bt)))]) [0, 1, 2] rfl) (ci := 2) (q0 := 0) rfl rfl) (pre_of ext0 hK hP hD hS hA trivial [0, 1, 2] (by decide) rfl _) rfl hl.1 (Nat.le_of_ble_eq_true rfl) dX4_readPart_42 ⟨by decide, by decide⟩) hP hD hS hA [0, 1, 2] [] rfl rfl (by decide) (by decide) (fun r__ u__ H locs hw hP hD hS => ?_)
            subst hw
            have hP := hP.sub (ws' := [(h, .inr (2, [.ref sA, .int (iz size), .int (iz ft), .ref bA, .int (iz len), .int (iz (tkP bt len 47 (rP bt len a))), .int hd2])), (sA, .inl (G.2 0, 11, .inl (rv st))), (bA, .inl (G.2 0, 200, .inl (av bt)))]) [0, 1, 2] rfl
            have hD := hD.sub (ws' := [(h, .inr (2, [.ref sA, .int (iz size), .int (iz ft), .ref bA, .int (iz len), .int (iz (tkP bt len 47 (rP bt len a))), .int hd2])), (sA, .inl (G.2 0, 11, .inl (rv st))), (bA, .inl (G.2 0, 200, .inl (av bt)))]) [0, 1, 2] (by decide) rfl
            refine zk_bif_ne (tgt := 50) hX_ hB_ dX4_readPart_45 (by decide) (fun c_45 => ?_) (fun c_45 => ?_)
            · skip
              refine lv_iinc (v := (iz (i + 1))) (lv' := [(1, .int (iz (i + 1))), (0, .ref h)]) hX_ hB_ dX4_readPart_50 hl (k := 1) rfl (iz_add _ _) (by decide) rfl (fun ls hl => ?_)
              refine lv_goto (tgt := 23) hX_ hB_ dX4_readPart_53 (by decide) ?_
              exact ih_23 (i + 1) (tkP bt len 47 (rP bt len a)) hd2 (adds ff (nV bt len a) (rH bt len a)) ft (by omega) (by omega) (by exact (hw_31 c_34).2) (by exact eft) (by rw [hp, hk]; show (if _ then _ else _) = _; rw [c_34, if_pos rfl, c_45, if_pos rfl]) (by omega) _ _ hP hD hS ls (lv_sub hl [1, 0] rfl)
            · skip
              refine zk_iconst hX_ hB_ dX4_readPart_48 ?_
              have ep : part bt len at_ = (true, tkP bt len 47 (rP bt len a), adds ff (nV bt len a) (rH bt len a)) := by rw [hp, hk]; show (if _ then _ else _) = _; rw [c_34, if_pos rfl, c_45]; rfl
              rw [eft] at hP hD
              refine zk_topi (y := zb true) rfl ?_
              exact fin_i (wf := (fun u : Int32 × Int => match u with | (heard2, at2) => [(h, .inr (2, [.ref sA, .int (iz size), .int (iz (if (part bt len at_).1 then fault else (part bt len at_).2.1)), .ref bA, .int (iz len), .int (iz at2), .int heard2])), (sA, .inl (G.2 0, 11, .inl (rv st))), (bA, .inl (G.2 0, 200, .inl (av bt)))])) (hd2, tkP bt len 47 (rP bt len a)) F (zb_nar _) (by (try dsimp only); rw [ep]; exact hP) (by (try dsimp only); rw [ep]; exact hD) hK hS (by decide) (by decide) dX4_readPart_49 (by exact ⟨by rw [ep], fun _ => by rw [ep]; exact ⟨rfl, (hw_31 c_34).2⟩⟩)
          · skip
            refine zk_iconst hX_ hB_ dX4_readPart_37 ?_
            have ep : part bt len at_ = (false, rP bt len a, ff) := by rw [hp, hk]; show (if _ then _ else _) = _; rw [c_34]; rfl
            rw [c_34] at hP hD
            refine zk_topi (y := zb false) rfl ?_
            exact fin_i (wf := (fun u : Int32 × Int => match u with | (heard2, at2) => [(h, .inr (2, [.ref sA, .int (iz size), .int (iz (if (part bt len at_).1 then fault else (part bt len at_).2.1)), .ref bA, .int (iz len), .int (iz at2), .int heard2])), (sA, .inl (G.2 0, 11, .inl (rv st))), (bA, .inl (G.2 0, 200, .inl (av bt)))])) (hd2, a2) F (zb_nar _) (by (try dsimp only); rw [ep, ← eft]; exact hP) (by (try dsimp only); rw [ep, ← eft]; exact hD) hK hS (by decide) (by decide) dX4_readPart_38 (by exact ⟨by rw [ep], fun q => by rw [ep] at q; cases q⟩)
    exact loop_23 _ 0 (tkP bt len 63 at_) (iz 0) (fun _ => false) fault (by omega) (by omega) (by intro v h1 h2; have h3 : ∀ k : Nat, k < 31 → hold (iz 0) (k : Int) = false := (by decide); have := h3 v.toNat (by omega); rwa [Int.toNat_of_nonneg h1] at this) (by rfl) (by unfold part; rw [c_6]; rfl) (Nat.lt_succ_self _) _ _ hP hD hS ls (lv_sub hl [1, 0] rfl)
  · skip
    refine lv_aload_n hX_ hB_ dX4_readPart_9 rfl (lv_at hl 0 rfl) ?_
    refine zk_iconst hX_ hB_ dX4_readPart_10 ?_
    refine va_put (D := G.1) (ci := 2) (v := .int (iz (-1))) (ty := .int) (C := RX4) (T := TX4) (N := 7) hX_ hB_ hts hi_X4_readPart_X4 tyX4 tyX4_ok nmX4 hown hK.1 hP hD hS 0 rfl rfl 6 (by decide) (hts _ hw_X4_readPart_897535) (fun _ h9 => h9) rfl (by decide +kernel) rfl rfl (Nat.le_of_ble_eq_true rfl) dX4_readPart_11 (fun H locs hP hD hS => ?_)
    have hP : va_P G.1 vwCl [(h, .inr (2, [.ref sA, .int (iz size), .int (iz fault), .ref bA, .int (iz len), .int (iz (tkP bt len 63 at_)), .int (iz (-1))])), (sA, .inl (G.2 0, 11, .inl (rv st))), (bA, .inl (G.2 0, 200, .inl (av bt)))] _ := hP
    have hD : va_D A [(h, .inr (2, [.ref sA, .int (iz size), .int (iz fault), .ref bA, .int (iz len), .int (iz (tkP bt len 63 at_)), .int (iz (-1))])), (sA, .inl (G.2 0, 11, .inl (rv st))), (bA, .inl (G.2 0, 200, .inl (av bt)))] := hD
    refine zk_iconst hX_ hB_ dX4_readPart_14 ?_
    have ep : part bt len at_ = (true, tkP bt len 63 at_, fun _ => true) := by unfold part; rw [c_6]; rfl
    refine zk_topi (y := zb true) rfl ?_
    exact fin_i (wf := (fun u : Int32 × Int => match u with | (heard2, at2) => [(h, .inr (2, [.ref sA, .int (iz size), .int (iz (if (part bt len at_).1 then fault else (part bt len at_).2.1)), .ref bA, .int (iz len), .int (iz at2), .int heard2])), (sA, .inl (G.2 0, 11, .inl (rv st))), (bA, .inl (G.2 0, 200, .inl (av bt)))])) (iz (-1), tkP bt len 63 at_) F (zb_nar _) (by (try dsimp only); rw [ep]; exact hP) (by (try dsimp only); rw [ep]; exact hD) hK hS (by decide) (by decide) dX4_readPart_15 (by exact ⟨by rw [ep], fun _ => by rw [ep]; exact ⟨rfl, fun v h1 h2 => hold_any (by omega)⟩⟩)
