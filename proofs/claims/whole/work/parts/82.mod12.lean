
/-! what the model's parts stand for -/
def Sat (fF tT dD ak : Int → Int) (Wk : Int → Bool) (k : Int) (c : Int → Int) : Prop := ∀ j : Int, 0 ≤ j → j < k → Wk j = false → c (tT (ak j)) = c (fF (ak j)) + dD (ak j)
def UF (sn : Int) (pa of : Int → Int) (P : (Int → Int) → Prop) : Prop := ∀ c : Int → Int, P c ↔ ∀ x y : Int, 0 ≤ x → x < sn → 0 ≤ y → y < sn → pa x = pa y → c x - of x = c y - of y
def UR (sn : Int) (pa of : Int → Int) (B : Int) : Prop := (∀ x : Int, 0 ≤ x → x < sn → (0 ≤ pa x ∧ pa x < sn) ∧ pa (pa x) = pa x ∧ of (pa x) = 0) ∧ ∀ x y : Int, 0 ≤ x → x < sn → 0 ≤ y → y < sn → pa x = pa y → -B ≤ of x - of y ∧ of x - of y ≤ B
def Db : Nat → Int
  | 0 => 0
  | k + 1 => 2 * Db k + 500000
theorem Db_le : ∀ k : Nat, k ≤ 12 → 0 ≤ Db k ∧ Db k ≤ 2047500000 ∧ (k ≤ 11 → Db k ≤ 1023500000) := by decide
theorem UR_of {sn B : Int} {pa of : Int → Int} (h : UR sn pa of B) {x : Int} (h0 : 0 ≤ x) (h1 : x < sn) : -B ≤ of x ∧ of x ≤ B := by
  have a := h.1 x h0 h1
  have b := h.2 x (pa x) h0 h1 a.1.1 a.1.2 a.2.1.symm
  omega
theorem uf_same {sn : Int} {pa of : Int → Int} {P P' : (Int → Int) → Prop} (h : UF sn pa of P) (e : ∀ c, P c → P' c) (e2 : ∀ c, P' c → P c) : UF sn pa of P' := fun c => ⟨fun q => (h c).mp (e2 c q), fun q => e c ((h c).mpr q)⟩
theorem uf_merge {sn a b D B far : Int} {p o pq oq : Int → Int} {P P' : (Int → Int) → Prop} (h : UF sn p o P) (hr : UR sn p o B) (ha : 0 ≤ a ∧ a < sn) (hb : 0 ≤ b ∧ b < sn) (hab : p a ≠ p b) (hf : far = o a + D - o b) (hD : -500000 ≤ D ∧ D ≤ 500000)
    (hp : ∀ x : Int, 0 ≤ x → x < sn → pq x = (if p x = p b then p a else p x) ∧ oq x = (if p x = p b then o x + far else o x)) (e : ∀ c, P' c ↔ P c ∧ c b = c a + D) (hB : 0 ≤ B) : UF sn pq oq P' ∧ UR sn pq oq (2 * B + 500000) := by
  have n1 : ∀ x : Int, 0 ≤ x → x < sn → p x ≠ p b → pq x = p x ∧ oq x = o x := fun x x0 x1 q => by
    have := hp x x0 x1
    rw [if_neg q, if_neg q] at this
    exact this
  have n2 : ∀ x : Int, 0 ≤ x → x < sn → p x = p b → pq x = p a ∧ oq x = o x + far := fun x x0 x1 q => by
    have := hp x x0 x1
    rw [if_pos q, if_pos q] at this
    exact this
  have ra := hr.1 a ha.1 ha.2
  have rb := hr.1 b hb.1 hb.2
  refine ⟨fun c => ?_, fun x x0 x1 => ?_, fun x y x0 x1 y0 y1 he => ?_⟩
  · rw [e, h c]
    constructor
    · rintro ⟨q1, q2⟩ x y x0 x1 y0 y1 he
      by_cases gx : p x = p b <;> by_cases gy : p y = p b
      · rw [(n2 x x0 x1 gx).2, (n2 y y0 y1 gy).2]
        have := q1 x y x0 x1 y0 y1 (gx.trans gy.symm)
        omega
      · rw [(n2 x x0 x1 gx).1, (n1 y y0 y1 gy).1] at he
        rw [(n2 x x0 x1 gx).2, (n1 y y0 y1 gy).2]
        have z1 := q1 x b x0 x1 hb.1 hb.2 gx
        have z2 := q1 y a y0 y1 ha.1 ha.2 he.symm
        omega
      · rw [(n1 x x0 x1 gx).1, (n2 y y0 y1 gy).1] at he
        rw [(n1 x x0 x1 gx).2, (n2 y y0 y1 gy).2]
        have z1 := q1 y b y0 y1 hb.1 hb.2 gy
        have z2 := q1 x a x0 x1 ha.1 ha.2 he
        omega
      · rw [(n1 x x0 x1 gx).1, (n1 y y0 y1 gy).1] at he
        rw [(n1 x x0 x1 gx).2, (n1 y y0 y1 gy).2]
        exact q1 x y x0 x1 y0 y1 he
    · intro q
      refine ⟨fun x y x0 x1 y0 y1 he => ?_, ?_⟩
      · by_cases gx : p x = p b
        · have gy : p y = p b := he.symm.trans gx
          have := q x y x0 x1 y0 y1 (by rw [(n2 x x0 x1 gx).1, (n2 y y0 y1 gy).1])
          rw [(n2 x x0 x1 gx).2, (n2 y y0 y1 gy).2] at this
          omega
        · have gy : ¬ p y = p b := fun z => gx (he.trans z)
          have := q x y x0 x1 y0 y1 (by rw [(n1 x x0 x1 gx).1, (n1 y y0 y1 gy).1]; exact he)
          rw [(n1 x x0 x1 gx).2, (n1 y y0 y1 gy).2] at this
          exact this
      · have := q b a hb.1 hb.2 ha.1 ha.2 (by rw [(n2 b hb.1 hb.2 rfl).1, (n1 a ha.1 ha.2 hab).1])
        rw [(n2 b hb.1 hb.2 rfl).2, (n1 a ha.1 ha.2 hab).2] at this
        omega
  · have rx := hr.1 x x0 x1
    have ga := n1 (p a) ra.1.1 ra.1.2 (by rw [ra.2.1]; exact hab)
    by_cases gx : p x = p b
    · rw [(n2 x x0 x1 gx).1]
      exact ⟨ra.1, ga.1.trans ra.2.1, ga.2.trans ra.2.2⟩
    · rw [(n1 x x0 x1 gx).1]
      have gg := n1 (p x) rx.1.1 rx.1.2 (by rw [rx.2.1]; exact gx)
      exact ⟨rx.1, gg.1.trans rx.2.1, gg.2.trans rx.2.2⟩
  · by_cases gx : p x = p b <;> by_cases gy : p y = p b
    · rw [(n2 x x0 x1 gx).2, (n2 y y0 y1 gy).2]
      have := hr.2 x y x0 x1 y0 y1 (gx.trans gy.symm)
      omega
    · rw [(n2 x x0 x1 gx).1, (n1 y y0 y1 gy).1] at he
      rw [(n2 x x0 x1 gx).2, (n1 y y0 y1 gy).2]
      have z1 := hr.2 x b x0 x1 hb.1 hb.2 gx
      have z2 := hr.2 y a y0 y1 ha.1 ha.2 he.symm
      omega
    · rw [(n1 x x0 x1 gx).1, (n2 y y0 y1 gy).1] at he
      rw [(n1 x x0 x1 gx).2, (n2 y y0 y1 gy).2]
      have z1 := hr.2 y b y0 y1 hb.1 hb.2 gy
      have z2 := hr.2 x a x0 x1 ha.1 ha.2 he
      omega
    · rw [(n1 x x0 x1 gx).1, (n1 y y0 y1 gy).1] at he
      rw [(n1 x x0 x1 gx).2, (n1 y y0 y1 gy).2]
      have := hr.2 x y x0 x1 y0 y1 he
      omega
theorem sat_0 {fF tT dD ak : Int → Int} {Wk : Int → Bool} {c : Int → Int} : Sat fF tT dD ak Wk 0 c := fun j h0 h1 => by omega
theorem sat_w {fF tT dD ak : Int → Int} {Wk : Int → Bool} {k : Int} (hw : Wk k = true) (c : Int → Int) : Sat fF tT dD ak Wk (k + 1) c ↔ Sat fF tT dD ak Wk k c := by
  refine ⟨fun h j j0 j1 => h j j0 (by omega), fun h j j0 j1 hj => ?_⟩
  rcases (show j < k ∨ j = k by omega) with q | q
  · exact h j j0 q hj
  · rw [q, hw] at hj; cases hj
theorem sat_n {fF tT dD ak : Int → Int} {Wk : Int → Bool} {k : Int} (h0 : 0 ≤ k) (hw : Wk k = false) (c : Int → Int) : Sat fF tT dD ak Wk (k + 1) c ↔ Sat fF tT dD ak Wk k c ∧ c (tT (ak k)) = c (fF (ak k)) + dD (ak k) := by
  refine ⟨fun h => ⟨fun j j0 j1 => h j j0 (by omega), h k h0 (by omega) hw⟩, fun h j j0 j1 hj => ?_⟩
  rcases (show j < k ∨ j = k by omega) with q | q
  · exact h.1 j j0 q hj
  · rw [q]; exact h.2
theorem sat_le {fF tT dD ak : Int → Int} {Wk : Int → Bool} {k m : Int} (h : k ≤ m) {c : Int → Int} (q : Sat fF tT dD ak Wk m c) : Sat fF tT dD ak Wk k c := fun j j0 j1 => q j j0 (by omega)
theorem uf_init {sn : Int} {pa of : Int → Int} {fF tT dD ak : Int → Int} {Wk : Int → Bool} (h : ∀ x : Int, 0 ≤ x → x < sn → pa x = x ∧ of x = 0) : UF sn pa of (Sat fF tT dD ak Wk 0) ∧ UR sn pa of (Db 0) := by
  refine ⟨fun c => ⟨fun _ x y x0 x1 y0 y1 he => ?_, fun _ => sat_0⟩, fun x x0 x1 => ?_, fun x y x0 x1 y0 y1 he => ?_⟩
  · rw [(h x x0 x1).1, (h y y0 y1).1] at he
    rw [he]
  · rw [(h x x0 x1).1]
    exact ⟨⟨x0, x1⟩, (h x x0 x1).1, (h x x0 x1).2⟩
  · rw [(h x x0 x1).2, (h y y0 y1).2]
    show -(0 : Int) ≤ 0 - 0 ∧ (0 : Int) - 0 ≤ 0
    omega
theorem hw_X9_isAskedWrong_be9c32 : (.fieldLink RX9 195 "StoneDatesModel" "askedMany" "I" : Cond) ∈ wsX9_isAskedWrong := by decide +kernel
theorem hi_X9_isAskedWrong_X9 : ∀ w ∈ u_ws RX9 TX9 33, w ∈ wsX9_isAskedWrong := by decide +kernel
set_option maxHeartbeats 4000000 in
set_option maxRecDepth 100000 in
theorem c_X9_isAskedWrong (l : Launch) (G : GG) (mo : Nat) (th : Int) (bsA : Nat) (tw : Int) (tpA : Nat) (td : Int) (sz : Int) (at_ : Int) (iw : Bool) (loA : Nat) (hiA : Nat) (sl : Int64) (sh : Int64) (toA : Nat) (mnA : Nat) (dyA : Nat) (sn : Int) (frA : Nat) (t2A : Nat) (faA : Nat) (dn : Int) (iso : Bool) (akA : Nat) (am : Int) (wr : Int) (paA : Nat) (ofA : Nat) (seA : Nat) (ecA : Nat) (em : Int) (nmA : Nat) (bst : Int) (bmn : Int) (bsm : Int) (k : Int) (ss : Nat) (hss : ss < 4096) (hk : 0 ≤ k ∧ k < am ∧ am ≤ 12) : Ci l yX9_isAskedWrong wsX9_isAskedWrong ({ frames := 0, cells := 0, slots := 0, locals := 0 }) G E0 [.ref mo, .int (iz k), .int (iz (ss : Int))] [(mo, .inr (7, .int (iz th) :: .ref bsA :: .int (iz tw) :: .ref tpA :: .int (iz td) :: .int (iz sz) :: .int (iz at_) :: .int (zb iw) :: .ref loA :: .ref hiA :: .long sl :: .long sh :: .ref toA :: .ref mnA :: .ref dyA :: .int (iz sn) :: .ref frA :: .ref t2A :: .ref faA :: .int (iz dn) :: .int (zb iso) :: .ref akA :: .int (iz am) :: .int (iz wr) :: .ref paA :: .ref ofA :: .ref seA :: .ref ecA :: .int (iz em) :: .ref nmA :: .int (iz bst) :: .int (iz bmn) :: .long (lz bsm) :: []))] 0 0 (fun _ : Unit => [(mo, .inr (7, .int (iz th) :: .ref bsA :: .int (iz tw) :: .ref tpA :: .int (iz td) :: .int (iz sz) :: .int (iz at_) :: .int (zb iw) :: .ref loA :: .ref hiA :: .long sl :: .long sh :: .ref toA :: .ref mnA :: .ref dyA :: .int (iz sn) :: .ref frA :: .ref t2A :: .ref faA :: .int (iz dn) :: .int (zb iso) :: .ref akA :: .int (iz am) :: .int (iz wr) :: .ref paA :: .ref ofA :: .ref seA :: .ref ecA :: .int (iz em) :: .ref nmA :: .int (iz bst) :: .int (iz bmn) :: .long (lz bsm) :: []))]) (fun (r : Int32) (_ : Unit) => r = (zb (wbt ss (am - 1 - k)))) := by
  refine Ci_intro (cc := cX9_isAskedWrong) (maxL := 3) (ret := (some .boolean)) (by decide) rfl (Nat.le_of_ble_eq_true rfl) ?_
  intro p e s m below meth c A F hA hP hD hK hE ls hl
  have hX_ := F.1
  have hB_ := F.2.1
  have hts := F.2.2.2.2.2.1
  have hown := F.2.2.2.2.1
  have hml := F.2.2.2.1
  have hS : va_S A s.heap s.heap [] := va_S.rf
  have hl : lv_has ls 3 [(0, .ref mo), (1, .int (iz k)), (2, .int (iz (ss : Int)))] := hl
  refine lv_iload_n hX_ hB_ dX9_isAskedWrong_0 rfl (lv_at hl 2 rfl) ?_
  refine lv_aload_n hX_ hB_ dX9_isAskedWrong_1 rfl (lv_at hl 0 rfl) ?_
  refine va_get (D := G.1) (ci := 7) (v := .int (iz am)) (C := RX9) (T := TX9) (N := 33) hX_ hB_ hts hi_X9_isAskedWrong_X9 hown hK.1 hP 0 rfl rfl 22 (by decide) (hts _ hw_X9_isAskedWrong_be9c32) (fun _ h9 => h9) rfl dX9_isAskedWrong_2 ?_
  refine zk_iconst hX_ hB_ dX9_isAskedWrong_5 ?_
  refine zk_isub hX_ hB_ dX9_isAskedWrong_6 ?_
  refine lv_iload_n hX_ hB_ dX9_isAskedWrong_7 rfl (lv_at hl 1 rfl) ?_
  refine zk_isub hX_ hB_ dX9_isAskedWrong_8 ?_
  refine lv_ishr hX_ hB_ dX9_isAskedWrong_9 ?_
  refine zk_iconst hX_ hB_ dX9_isAskedWrong_10 ?_
  refine lv_iand hX_ hB_ dX9_isAskedWrong_11 ?_
  refine zk_topi (y := (iz (bz (wbt ss (am - 1 - k))))) (sh_ok (by omega) hss) ?_
  have hbz := bz_01 (wbt ss (am - 1 - k))
  refine zk_iconst hX_ hB_ dX9_isAskedWrong_12 ?_
  refine zk_icmp_ne (tgt := 20) hX_ hB_ (by omega) (by omega) dX9_isAskedWrong_13 (by decide) (fun c_13 => ?_) (fun c_13 => ?_)
  · skip
    refine zk_iconst hX_ hB_ dX9_isAskedWrong_20 ?_
    refine zk_topi (y := (zb false)) rfl ?_
    exact fin_i (wf := (fun _ : Unit => [(mo, .inr (7, .int (iz th) :: .ref bsA :: .int (iz tw) :: .ref tpA :: .int (iz td) :: .int (iz sz) :: .int (iz at_) :: .int (zb iw) :: .ref loA :: .ref hiA :: .long sl :: .long sh :: .ref toA :: .ref mnA :: .ref dyA :: .int (iz sn) :: .ref frA :: .ref t2A :: .ref faA :: .int (iz dn) :: .int (zb iso) :: .ref akA :: .int (iz am) :: .int (iz wr) :: .ref paA :: .ref ofA :: .ref seA :: .ref ecA :: .int (iz em) :: .ref nmA :: .int (iz bst) :: .int (iz bmn) :: .long (lz bsm) :: []))])) () F (zb_nar _) hP hD hK hS (by decide) (by decide) dX9_isAskedWrong_21 (by exact congrArg zb (bz_f (by omega)).symm)
  · skip
    refine zk_iconst hX_ hB_ dX9_isAskedWrong_16 ?_
    refine zk_topi (y := (zb true)) rfl ?_
    refine lv_goto (tgt := 21) hX_ hB_ dX9_isAskedWrong_17 (by decide) ?_
    exact fin_i (wf := (fun _ : Unit => [(mo, .inr (7, .int (iz th) :: .ref bsA :: .int (iz tw) :: .ref tpA :: .int (iz td) :: .int (iz sz) :: .int (iz at_) :: .int (zb iw) :: .ref loA :: .ref hiA :: .long sl :: .long sh :: .ref toA :: .ref mnA :: .ref dyA :: .int (iz sn) :: .ref frA :: .ref t2A :: .ref faA :: .int (iz dn) :: .int (zb iso) :: .ref akA :: .int (iz am) :: .int (iz wr) :: .ref paA :: .ref ofA :: .ref seA :: .ref ecA :: .int (iz em) :: .ref nmA :: .int (iz bst) :: .int (iz bmn) :: .long (lz bsm) :: []))])) () F (zb_nar _) hP hD hK hS (by decide) (by decide) dX9_isAskedWrong_21 (by exact congrArg zb (bz_t (by omega)).symm)

set_option maxHeartbeats 4000000 in
set_option maxRecDepth 100000 in
theorem c_X9_bits (l : Launch) (G : GG) (ss : Nat) (hss : ss < 4096) : Ci l yX9_bits wsX9_bits ({ frames := 0, cells := 0, slots := 0, locals := 0 }) G E0 [.int (iz (ss : Int))] [] 0 0 (fun _ : Unit => []) (fun (r : Int32) (_ : Unit) => r = (iz (cnt ss.testBit 12 : Int))) := by
  refine Ci_intro (cc := cX9_bits) (maxL := 3) (ret := (some .int)) (by decide) rfl (Nat.le_of_ble_eq_true rfl) ?_
  intro p e s m below meth c A F hA hP hD hK hE ls hl
  have hX_ := F.1
  have hB_ := F.2.1
  have hts := F.2.2.2.2.2.1
  have hown := F.2.2.2.2.1
  have hml := F.2.2.2.1
  have hS : va_S A s.heap s.heap [] := va_S.rf
  have hl : lv_has ls 3 [(0, .int (iz (ss : Int)))] := hl
  refine zk_iconst hX_ hB_ dX9_bits_0 ?_
  refine lv_istore_n (lv' := [(1, .int (iz 0)), (0, .int (iz (ss : Int)))]) hX_ hB_ dX9_bits_1 rfl hl (by decide) rfl (fun ls hl => ?_)
  refine zk_iconst hX_ hB_ dX9_bits_2 ?_
  refine lv_istore_n (lv' := [(2, .int (iz 0)), (1, .int (iz 0)), (0, .int (iz (ss : Int)))]) hX_ hB_ dX9_bits_3 rfl hl (by decide) rfl (fun ls hl => ?_)
  have loop_4 : ∀ (n_4 : Nat), ∀ (i : Int) (v : Int), (0 ≤ i ∧ i ≤ 12) → (v = (cnt ss.testBit i.toNat : Int)) → ((12 - i).toNat < n_4) → ∀ (H : Heap) (locs : List Loc), va_P G.1 vwCl [] H → va_D A [] → va_S A s.heap H locs → ∀ ls : Array Slot, lv_has ls 3 [(0, .int (iz (ss : Int))), (1, .int (iz v)), (2, .int (iz i))] → W p l e ({ frames := 0, cells := 0, slots := 0, locals := 0 }) s m ([.int (iz (ss : Int))] : List Value).toArray below meth c H locs 0 0 (MQ below (va_Qi (fun (r : Int32) (_ : Unit) => r = (iz (cnt ss.testBit 12 : Int))) (fun u__ t__ => Pst G A ((fun _ : Unit => []) u__) t__) A) ([.int (iz (ss : Int))] : List Value).toArray s 0 0 A) (F0 m 4 ls []) := by
    intro n_4
    induction n_4 with
    | zero =>
      intro i v hi hv hm H locs hP hD hS ls hl
      exact absurd hm (Nat.not_lt_zero _)
    | succ n_4 ih_4 =>
      intro i v hi hv hm H locs hP hD hS ls hl
      refine lv_iload_n hX_ hB_ dX9_bits_4 rfl (lv_at hl 2 rfl) ?_
      refine zk_bipush hX_ hB_ (by decide) dX9_bits_5 ?_
      refine zk_icmp_ge (tgt := 24) hX_ hB_ (by omega) (by omega) dX9_bits_7 (by decide) (fun c_7 => ?_) (fun c_7 => ?_)
      · skip
        refine lv_iload_n hX_ hB_ dX9_bits_24 rfl (lv_at hl 1 rfl) ?_
        exact fin_i (wf := (fun _ : Unit => [])) () F rfl hP hD hK hS (by decide) (by decide) dX9_bits_25 (by refine congrArg iz ?_; rw [hv, show i = 12 from by omega]; rfl)
      · skip
        refine lv_iload_n hX_ hB_ dX9_bits_10 rfl (lv_at hl 1 rfl) ?_
        refine lv_iload_n hX_ hB_ dX9_bits_11 rfl (lv_at hl 0 rfl) ?_
        refine lv_iload_n hX_ hB_ dX9_bits_12 rfl (lv_at hl 2 rfl) ?_
        refine lv_ishr hX_ hB_ dX9_bits_13 ?_
        refine zk_iconst hX_ hB_ dX9_bits_14 ?_
        refine lv_iand hX_ hB_ dX9_bits_15 ?_
        refine zk_topi (y := (iz (bz (wbt ss i)))) (sh_ok (by omega) hss) ?_
        refine zk_iadd hX_ hB_ dX9_bits_16 ?_
        refine lv_istore_n (lv' := [(1, .int (iz (v + (bz (wbt ss i))))), (0, .int (iz (ss : Int))), (2, .int (iz i))]) hX_ hB_ dX9_bits_17 rfl hl (by decide) rfl (fun ls hl => ?_)
        refine lv_iinc (v := (iz (i + 1))) (lv' := [(2, .int (iz (i + 1))), (1, .int (iz (v + (bz (wbt ss i))))), (0, .int (iz (ss : Int)))]) hX_ hB_ dX9_bits_18 hl (k := 2) rfl (iz_add _ _) (by decide) rfl (fun ls hl => ?_)
        refine lv_goto (tgt := 4) hX_ hB_ dX9_bits_21 (by decide) ?_
        exact ih_4 (i + 1) (v + (bz (wbt ss i))) (by omega) (by rw [cnt_add hi.1, hv]; unfold bz wbt; rw [decide_eq_true hi.1, Bool.true_and]) (by omega) _ _ hP hD hS ls (lv_sub hl [2, 1, 0] rfl)
  exact loop_4 _ 0 0 (by omega) (by rfl) (Nat.lt_succ_self _) _ _ hP hD hS ls (lv_sub hl [2, 1, 0] rfl)

theorem hw_X9_joins_39ede4 : (.fieldLink RX9 163 "StoneDatesModel" "stones" "I" : Cond) ∈ wsX9_joins := by decide +kernel
theorem hi_X9_joins_X9 : ∀ w ∈ u_ws RX9 TX9 33, w ∈ wsX9_joins := by decide +kernel
theorem hw_X9_joins_be9c32 : (.fieldLink RX9 195 "StoneDatesModel" "askedMany" "I" : Cond) ∈ wsX9_joins := by decide +kernel
theorem mdv_X9_isAskedWrong : yX9_isAskedWrong.cls = RX9 ∧ yX9_isAskedWrong.cls ≠ "java/lang/invoke/MethodHandle" ∧ yX9_isAskedWrong.cls ≠ "java/lang/invoke/VarHandle" ∧ (parseMethodDescriptor yX9_isAskedWrong.desc).map (fun d => d.parameters.length) = some 2 := by decide +kernel
theorem hw_X9_joins_091075 : (.fieldLink RX9 42 "StoneDatesModel" "asked" "[I" : Cond) ∈ wsX9_joins := by decide +kernel
theorem hw_X9_joins_e466c3 : (.fieldLink RX9 33 "StoneDatesModel" "fromOf" "[I" : Cond) ∈ wsX9_joins := by decide +kernel
theorem hw_X9_joins_94f793 : (.fieldLink RX9 36 "StoneDatesModel" "toOf" "[I" : Cond) ∈ wsX9_joins := by decide +kernel
theorem hw_X9_joins_df8a6c : (.fieldLink RX9 48 "StoneDatesModel" "off" "[I" : Cond) ∈ wsX9_joins := by decide +kernel
theorem hw_X9_joins_d3f5db : (.fieldLink RX9 39 "StoneDatesModel" "farOf" "[I" : Cond) ∈ wsX9_joins := by decide +kernel
theorem hw_X9_joins_c47d07 : (.fieldLink RX9 45 "StoneDatesModel" "part" "[I" : Cond) ∈ wsX9_joins := by decide +kernel
set_option maxHeartbeats 4000000 in
set_option maxRecDepth 100000 in
theorem c_X9_joins (l : Launch) (G : GG) (mo : Nat) (th : Int) (bsA : Nat) (tw : Int) (tpA : Nat) (td : Int) (sz : Int) (at_ : Int) (iw : Bool) (loA : Nat) (hiA : Nat) (sl : Int64) (sh : Int64) (toA : Nat) (mnA : Nat) (dyA : Nat) (sn : Int) (frA : Nat) (t2A : Nat) (faA : Nat) (dn : Int) (iso : Bool) (akA : Nat) (am : Int) (wr : Int) (paA : Nat) (ofA : Nat) (seA : Nat) (ecA : Nat) (em : Int) (nmA : Nat) (bst : Int) (bmn : Int) (bsm : Int) (fr : Int → Int) (t2 : Int → Int) (fa : Int → Int) (ak : Int → Int) (pa : Int → Int) (of : Int → Int) (ss : Nat) (hsn : 0 ≤ sn ∧ sn ≤ 30) (ham : 0 ≤ am ∧ am ≤ 12) (hak : ∀ j : Int, 0 ≤ j → j < am → (0 ≤ ak j ∧ ak j < 12) ∧ (0 ≤ fr (ak j) ∧ fr (ak j) < sn) ∧ (0 ≤ t2 (ak j) ∧ t2 (ak j) < sn) ∧ -500000 ≤ fa (ak j) ∧ fa (ak j) ≤ 500000) (hss : ss < 4096) : Ci l yX9_joins wsX9_joins ({ frames := 1, cells := 0, slots := 0, locals := 22 }) G E0 [.ref mo, .int (iz (ss : Int))] [(mo, .inr (7, .int (iz th) :: .ref bsA :: .int (iz tw) :: .ref tpA :: .int (iz td) :: .int (iz sz) :: .int (iz at_) :: .int (zb iw) :: .ref loA :: .ref hiA :: .long sl :: .long sh :: .ref toA :: .ref mnA :: .ref dyA :: .int (iz sn) :: .ref frA :: .ref t2A :: .ref faA :: .int (iz dn) :: .int (zb iso) :: .ref akA :: .int (iz am) :: .int (iz wr) :: .ref paA :: .ref ofA :: .ref seA :: .ref ecA :: .int (iz em) :: .ref nmA :: .int (iz bst) :: .int (iz bmn) :: .long (lz bsm) :: [])), (frA, .inl (G.2 0, 12, .inl (av fr))), (t2A, .inl (G.2 0, 12, .inl (av t2))), (faA, .inl (G.2 0, 12, .inl (av fa))), (akA, .inl (G.2 0, 12, .inl (av ak))), (paA, .inl (G.2 0, 30, .inl (av pa))), (ofA, .inl (G.2 0, 30, .inl (av of)))] 0 0 (fun u : Bool × (Int → Int) × (Int → Int) => match u with | (bb, pa2, of2) => [(mo, .inr (7, .int (iz th) :: .ref bsA :: .int (iz tw) :: .ref tpA :: .int (iz td) :: .int (iz sz) :: .int (iz at_) :: .int (zb iw) :: .ref loA :: .ref hiA :: .long sl :: .long sh :: .ref toA :: .ref mnA :: .ref dyA :: .int (iz sn) :: .ref frA :: .ref t2A :: .ref faA :: .int (iz dn) :: .int (zb iso) :: .ref akA :: .int (iz am) :: .int (iz wr) :: .ref paA :: .ref ofA :: .ref seA :: .ref ecA :: .int (iz em) :: .ref nmA :: .int (iz bst) :: .int (iz bmn) :: .long (lz bsm) :: [])), (frA, .inl (G.2 0, 12, .inl (av fr))), (t2A, .inl (G.2 0, 12, .inl (av t2))), (faA, .inl (G.2 0, 12, .inl (av fa))), (akA, .inl (G.2 0, 12, .inl (av ak))), (paA, .inl (G.2 0, 30, .inl (av pa2))), (ofA, .inl (G.2 0, 30, .inl (av of2)))]) (fun (r : Int32) (u : Bool × (Int → Int) × (Int → Int)) => match u with | (bb, pa2, of2) => (r = (zb bb)) ∧ ((bb = true → UF sn pa2 of2 (Sat fr t2 fa ak (fun j_ => wbt ss (am - 1 - j_)) am) ∧ UR sn pa2 of2 2047500000) ∧ (bb = false → ∀ c, ¬ Sat fr t2 fa ak (fun j_ => wbt ss (am - 1 - j_)) am c))) := by
  refine Ci_intro (cc := cX9_joins) (maxL := 9) (ret := (some .boolean)) (by decide) rfl (Nat.le_of_ble_eq_true rfl) ?_
  intro p e s m below meth c A F hA hP hD hK hE ls hl
  have hX_ := F.1
  have hB_ := F.2.1
  have hts := F.2.2.2.2.2.1
  have hown := F.2.2.2.2.1
  have hml := F.2.2.2.1
  have hS : va_S A s.heap s.heap [] := va_S.rf
  have hl : lv_has ls 9 [(0, .ref mo), (1, .int (iz (ss : Int)))] := hl
  refine zk_iconst hX_ hB_ dX9_joins_0 ?_
  refine lv_istore_n (lv' := [(2, .int (iz 0)), (0, .ref mo), (1, .int (iz (ss : Int)))]) hX_ hB_ dX9_joins_1 rfl hl (by decide) rfl (fun ls hl => ?_)
  have loop_2 : ∀ (n_2 : Nat), ∀ (i : Int) (p_ : Int → Int) (o_ : Int → Int), (0 ≤ i ∧ i ≤ sn) → (∀ x : Int, 0 ≤ x → x < i → p_ x = x ∧ o_ x = 0) → ((sn - i).toNat < n_2) → ∀ (H : Heap) (locs : List Loc), va_P G.1 vwCl [(mo, .inr (7, .int (iz th) :: .ref bsA :: .int (iz tw) :: .ref tpA :: .int (iz td) :: .int (iz sz) :: .int (iz at_) :: .int (zb iw) :: .ref loA :: .ref hiA :: .long sl :: .long sh :: .ref toA :: .ref mnA :: .ref dyA :: .int (iz sn) :: .ref frA :: .ref t2A :: .ref faA :: .int (iz dn) :: .int (zb iso) :: .ref akA :: .int (iz am) :: .int (iz wr) :: .ref paA :: .ref ofA :: .ref seA :: .ref ecA :: .int (iz em) :: .ref nmA :: .int (iz bst) :: .int (iz bmn) :: .long (lz bsm) :: [])), (frA, .inl (G.2 0, 12, .inl (av fr))), (t2A, .inl (G.2 0, 12, .inl (av t2))), (faA, .inl (G.2 0, 12, .inl (av fa))), (akA, .inl (G.2 0, 12, .inl (av ak))), (paA, .inl (G.2 0, 30, .inl (av p_))), (ofA, .inl (G.2 0, 30, .inl (av o_)))] H → va_D A [(mo, .inr (7, .int (iz th) :: .ref bsA :: .int (iz tw) :: .ref tpA :: .int (iz td) :: .int (iz sz) :: .int (iz at_) :: .int (zb iw) :: .ref loA :: .ref hiA :: .long sl :: .long sh :: .ref toA :: .ref mnA :: .ref dyA :: .int (iz sn) :: .ref frA :: .ref t2A :: .ref faA :: .int (iz dn) :: .int (zb iso) :: .ref akA :: .int (iz am) :: .int (iz wr) :: .ref paA :: .ref ofA :: .ref seA :: .ref ecA :: .int (iz em) :: .ref nmA :: .int (iz bst) :: .int (iz bmn) :: .long (lz bsm) :: [])), (frA, .inl (G.2 0, 12, .inl (av fr))), (t2A, .inl (G.2 0, 12, .inl (av t2))), (faA, .inl (G.2 0, 12, .inl (av fa))), (akA, .inl (G.2 0, 12, .inl (av ak))), (paA, .inl (G.2 0, 30, .inl (av p_))), (ofA, .inl (G.2 0, 30, .inl (av o_)))] → va_S A s.heap H locs → ∀ ls : Array Slot, lv_has ls 9 [(0, .ref mo), (1, .int (iz (ss : Int))), (2, .int (iz i))] → W p l e ({ frames := 1, cells := 0, slots := 0, locals := 22 }) s m ([.ref mo, .int (iz (ss : Int))] : List Value).toArray below meth c H locs 0 0 (MQ below (va_Qi (fun (r : Int32) (u : Bool × (Int → Int) × (Int → Int)) => match u with | (bb, pa2, of2) => (r = (zb bb)) ∧ ((bb = true → UF sn pa2 of2 (Sat fr t2 fa ak (fun j_ => wbt ss (am - 1 - j_)) am) ∧ UR sn pa2 of2 2047500000) ∧ (bb = false → ∀ c, ¬ Sat fr t2 fa ak (fun j_ => wbt ss (am - 1 - j_)) am c))) (fun u__ t__ => Pst G A ((fun u : Bool × (Int → Int) × (Int → Int) => match u with | (bb, pa2, of2) => [(mo, .inr (7, .int (iz th) :: .ref bsA :: .int (iz tw) :: .ref tpA :: .int (iz td) :: .int (iz sz) :: .int (iz at_) :: .int (zb iw) :: .ref loA :: .ref hiA :: .long sl :: .long sh :: .ref toA :: .ref mnA :: .ref dyA :: .int (iz sn) :: .ref frA :: .ref t2A :: .ref faA :: .int (iz dn) :: .int (zb iso) :: .ref akA :: .int (iz am) :: .int (iz wr) :: .ref paA :: .ref ofA :: .ref seA :: .ref ecA :: .int (iz em) :: .ref nmA :: .int (iz bst) :: .int (iz bmn) :: .long (lz bsm) :: [])), (frA, .inl (G.2 0, 12, .inl (av fr))), (t2A, .inl (G.2 0, 12, .inl (av t2))), (faA, .inl (G.2 0, 12, .inl (av fa))), (akA, .inl (G.2 0, 12, .inl (av ak))), (paA, .inl (G.2 0, 30, .inl (av pa2))), (ofA, .inl (G.2 0, 30, .inl (av of2)))]) u__) t__) A) ([.ref mo, .int (iz (ss : Int))] : List Value).toArray s 0 0 A) (F0 m 2 ls []) := by
    intro n_2
    induction n_2 with
    | zero =>
      intro i p_ o_ hi hpo hm H locs hP hD hS ls hl
      exact absurd hm (Nat.not_lt_zero _)
    | succ n_2 ih_2 =>
      intro i p_ o_ hi hpo hm H locs hP hD hS ls hl
      refine lv_iload_n hX_ hB_ dX9_joins_2 rfl (lv_at hl 2 rfl) ?_
      refine lv_aload_n hX_ hB_ dX9_joins_3 rfl (lv_at hl 0 rfl) ?_
      refine va_get (D := G.1) (ci := 7) (v := .int (iz sn)) (C := RX9) (T := TX9) (N := 33) hX_ hB_ hts hi_X9_joins_X9 hown hK.1 hP 0 rfl rfl 15 (by decide) (hts _ hw_X9_joins_39ede4) (fun _ h9 => h9) rfl dX9_joins_4 ?_
      refine zk_icmp_ge (tgt := 30) hX_ hB_ (by omega) (by omega) dX9_joins_7 (by decide) (fun c_7 => ?_) (fun c_7 => ?_)
      · skip
        refine zk_iconst hX_ hB_ dX9_joins_30 ?_
        refine lv_istore_n (lv' := [(2, .int (iz 0)), (0, .ref mo), (1, .int (iz (ss : Int)))]) hX_ hB_ dX9_joins_31 rfl hl (by decide) rfl (fun ls hl => ?_)
        have loop_32 : ∀ (n_32 : Nat), ∀ (k : Int) (p_ : Int → Int) (o_ : Int → Int), (0 ≤ k ∧ k ≤ am) → (UF sn p_ o_ (Sat fr t2 fa ak (fun j_ => wbt ss (am - 1 - j_)) k)) → (UR sn p_ o_ (Db k.toNat)) → ((am - k).toNat < n_32) → ∀ (H : Heap) (locs : List Loc), va_P G.1 vwCl [(mo, .inr (7, .int (iz th) :: .ref bsA :: .int (iz tw) :: .ref tpA :: .int (iz td) :: .int (iz sz) :: .int (iz at_) :: .int (zb iw) :: .ref loA :: .ref hiA :: .long sl :: .long sh :: .ref toA :: .ref mnA :: .ref dyA :: .int (iz sn) :: .ref frA :: .ref t2A :: .ref faA :: .int (iz dn) :: .int (zb iso) :: .ref akA :: .int (iz am) :: .int (iz wr) :: .ref paA :: .ref ofA :: .ref seA :: .ref ecA :: .int (iz em) :: .ref nmA :: .int (iz bst) :: .int (iz bmn) :: .long (lz bsm) :: [])), (frA, .inl (G.2 0, 12, .inl (av fr))), (t2A, .inl (G.2 0, 12, .inl (av t2))), (faA, .inl (G.2 0, 12, .inl (av fa))), (akA, .inl (G.2 0, 12, .inl (av ak))), (paA, .inl (G.2 0, 30, .inl (av p_))), (ofA, .inl (G.2 0, 30, .inl (av o_)))] H → va_D A [(mo, .inr (7, .int (iz th) :: .ref bsA :: .int (iz tw) :: .ref tpA :: .int (iz td) :: .int (iz sz) :: .int (iz at_) :: .int (zb iw) :: .ref loA :: .ref hiA :: .long sl :: .long sh :: .ref toA :: .ref mnA :: .ref dyA :: .int (iz sn) :: .ref frA :: .ref t2A :: .ref faA :: .int (iz dn) :: .int (zb iso) :: .ref akA :: .int (iz am) :: .int (iz wr) :: .ref paA :: .ref ofA :: .ref seA :: .ref ecA :: .int (iz em) :: .ref nmA :: .int (iz bst) :: .int (iz bmn) :: .long (lz bsm) :: [])), (frA, .inl (G.2 0, 12, .inl (av fr))), (t2A, .inl (G.2 0, 12, .inl (av t2))), (faA, .inl (G.2 0, 12, .inl (av fa))), (akA, .inl (G.2 0, 12, .inl (av ak))), (paA, .inl (G.2 0, 30, .inl (av p_))), (ofA, .inl (G.2 0, 30, .inl (av o_)))] → va_S A s.heap H locs → ∀ ls : Array Slot, lv_has ls 9 [(0, .ref mo), (1, .int (iz (ss : Int))), (2, .int (iz k))] → W p l e ({ frames := 1, cells := 0, slots := 0, locals := 22 }) s m ([.ref mo, .int (iz (ss : Int))] : List Value).toArray below meth c H locs 0 0 (MQ below (va_Qi (fun (r : Int32) (u : Bool × (Int → Int) × (Int → Int)) => match u with | (bb, pa2, of2) => (r = (zb bb)) ∧ ((bb = true → UF sn pa2 of2 (Sat fr t2 fa ak (fun j_ => wbt ss (am - 1 - j_)) am) ∧ UR sn pa2 of2 2047500000) ∧ (bb = false → ∀ c, ¬ Sat fr t2 fa ak (fun j_ => wbt ss (am - 1 - j_)) am c))) (fun u__ t__ => Pst G A ((fun u : Bool × (Int → Int) × (Int → Int) => match u with | (bb, pa2, of2) => [(mo, .inr (7, .int (iz th) :: .ref bsA :: .int (iz tw) :: .ref tpA :: .int (iz td) :: .int (iz sz) :: .int (iz at_) :: .int (zb iw) :: .ref loA :: .ref hiA :: .long sl :: .long sh :: .ref toA :: .ref mnA :: .ref dyA :: .int (iz sn) :: .ref frA :: .ref t2A :: .ref faA :: .int (iz dn) :: .int (zb iso) :: .ref akA :: .int (iz am) :: .int (iz wr) :: .ref paA :: .ref ofA :: .ref seA :: .ref ecA :: .int (iz em) :: .ref nmA :: .int (iz bst) :: .int (iz bmn) :: .long (lz bsm) :: [])), (frA, .inl (G.2 0, 12, .inl (av fr))), (t2A, .inl (G.2 0, 12, .inl (av t2))), (faA, .inl (G.2 0, 12, .inl (av fa))), (akA, .inl (G.2 0, 12, .inl (av ak))), (paA, .inl (G.2 0, 30, .inl (av pa2))), (ofA, .inl (G.2 0, 30, .inl (av of2)))]) u__) t__) A) ([.ref mo, .int (iz (ss : Int))] : List Value).toArray s 0 0 A) (F0 m 32 ls []) := by
          intro n_32
          induction n_32 with
          | zero =>
            intro k p_ o_ hk huf hur hm H locs hP hD hS ls hl
            exact absurd hm (Nat.not_lt_zero _)
          | succ n_32 ih_32 =>
            intro k p_ o_ hk huf hur hm H locs hP hD hS ls hl
            have hdb := Db_le k.toNat (by omega)
            refine lv_iload_n hX_ hB_ dX9_joins_32 rfl (lv_at hl 2 rfl) ?_
            refine lv_aload_n hX_ hB_ dX9_joins_33 rfl (lv_at hl 0 rfl) ?_
            refine va_get (D := G.1) (ci := 7) (v := .int (iz am)) (C := RX9) (T := TX9) (N := 33) hX_ hB_ hts hi_X9_joins_X9 hown hK.1 hP 0 rfl rfl 22 (by decide) (hts _ hw_X9_joins_be9c32) (fun _ h9 => h9) rfl dX9_joins_34 ?_
            refine zk_icmp_ge (tgt := 197) hX_ hB_ (by omega) (by omega) dX9_joins_37 (by decide) (fun c_37 => ?_) (fun c_37 => ?_)
            · skip
              refine zk_iconst hX_ hB_ dX9_joins_197 ?_
              refine zk_topi (y := (zb true)) rfl ?_
              have ek : k = am := by omega
              rw [ek] at huf
              exact fin_i (wf := (fun u : Bool × (Int → Int) × (Int → Int) => match u with | (bb, pa2, of2) => [(mo, .inr (7, .int (iz th) :: .ref bsA :: .int (iz tw) :: .ref tpA :: .int (iz td) :: .int (iz sz) :: .int (iz at_) :: .int (zb iw) :: .ref loA :: .ref hiA :: .long sl :: .long sh :: .ref toA :: .ref mnA :: .ref dyA :: .int (iz sn) :: .ref frA :: .ref t2A :: .ref faA :: .int (iz dn) :: .int (zb iso) :: .ref akA :: .int (iz am) :: .int (iz wr) :: .ref paA :: .ref ofA :: .ref seA :: .ref ecA :: .int (iz em) :: .ref nmA :: .int (iz bst) :: .int (iz bmn) :: .long (lz bsm) :: [])), (frA, .inl (G.2 0, 12, .inl (av fr))), (t2A, .inl (G.2 0, 12, .inl (av t2))), (faA, .inl (G.2 0, 12, .inl (av fa))), (akA, .inl (G.2 0, 12, .inl (av ak))), (paA, .inl (G.2 0, 30, .inl (av pa2))), (ofA, .inl (G.2 0, 30, .inl (av of2)))])) (true, p_, o_) F (zb_nar _) hP hD hK hS (by decide) (by decide) dX9_joins_198 (by exact ⟨rfl, fun _ => ⟨huf, hur.1, fun x y x0 x1 y0 y1 he => by have q := hur.2 x y x0 x1 y0 y1 he; omega⟩, fun q => absurd q (by decide)⟩)
            · skip
              refine lv_aload_n hX_ hB_ dX9_joins_40 rfl (lv_at hl 0 rfl) ?_
              refine lv_iload_n hX_ hB_ dX9_joins_41 rfl (lv_at hl 2 rfl) ?_
              refine lv_iload_n hX_ hB_ dX9_joins_42 rfl (lv_at hl 1 rfl) ?_
              refine back_i (wr := [(frA, .inl (G.2 0, 12, .inl (av fr))), (t2A, .inl (G.2 0, 12, .inl (av t2))), (faA, .inl (G.2 0, 12, .inl (av fa))), (akA, .inl (G.2 0, 12, .inl (av ak))), (paA, .inl (G.2 0, 30, .inl (av p_))), (ofA, .inl (G.2 0, 30, .inl (av o_)))]) (run_V (As := [.int (iz k), .int (iz (ss : Int))]) (rest := []) (wc := [(mo, .inr (7, .int (iz th) :: .ref bsA :: .int (iz tw) :: .ref tpA :: .int (iz td) :: .int (iz sz) :: .int (iz at_) :: .int (zb iw) :: .ref loA :: .ref hiA :: .long sl :: .long sh :: .ref toA :: .ref mnA :: .ref dyA :: .int (iz sn) :: .ref frA :: .ref t2A :: .ref faA :: .int (iz dn) :: .int (zb iso) :: .ref akA :: .int (iz am) :: .int (iz wr) :: .ref paA :: .ref ofA :: .ref seA :: .ref ecA :: .int (iz em) :: .ref nmA :: .int (iz bst) :: .int (iz bmn) :: .long (lz bsm) :: []))]) F (c_X9_isAskedWrong l G mo th bsA tw tpA td sz at_ iw loA hiA sl sh toA mnA dyA sn frA t2A faA dn iso akA am wr paA ofA seA ecA em nmA bst bmn bsm k _ hss (by omega) _) ext0 gX9_joins_X9_isAskedWrong rfl rfl rfl mdv_X9_isAskedWrong ⟨Nat.le_of_ble_eq_true rfl, Nat.le_of_ble_eq_true rfl⟩ (va_recv hK.1 (hP.sub (ws' := [(mo, .inr (7, .int (iz th) :: .ref bsA :: .int (iz tw) :: .ref tpA :: .int (iz td) :: .int (iz sz) :: .int (iz at_) :: .int (zb iw) :: .ref loA :: .ref hiA :: .long sl :: .long sh :: .ref toA :: .ref mnA :: .ref dyA :: .int (iz sn) :: .ref frA :: .ref t2A :: .ref faA :: .int (iz dn) :: .int (zb iso) :: .ref akA :: .int (iz am) :: .int (iz wr) :: .ref paA :: .ref ofA :: .ref seA :: .ref ecA :: .int (iz em) :: .ref nmA :: .int (iz bst) :: .int (iz bmn) :: .long (lz bsm) :: []))]) [0] rfl) (ci := 7) (q0 := 0) rfl rfl) (pre_of ext0 hK hP hD hS hA trivial [0] (by decide) rfl _) rfl hl.1 (Nat.le_of_ble_eq_true rfl) dX9_joins_43 ⟨by decide, by decide⟩) hP hD hS hA [0] [1, 2, 3, 4, 5, 6] rfl rfl (by decide) (by decide) (fun r__ u__ H locs hw hP hD hS => ?_)
              subst hw
              have hP := hP.sub (ws' := [(mo, .inr (7, .int (iz th) :: .ref bsA :: .int (iz tw) :: .ref tpA :: .int (iz td) :: .int (iz sz) :: .int (iz at_) :: .int (zb iw) :: .ref loA :: .ref hiA :: .long sl :: .long sh :: .ref toA :: .ref mnA :: .ref dyA :: .int (iz sn) :: .ref frA :: .ref t2A :: .ref faA :: .int (iz dn) :: .int (zb iso) :: .ref akA :: .int (iz am) :: .int (iz wr) :: .ref paA :: .ref ofA :: .ref seA :: .ref ecA :: .int (iz em) :: .ref nmA :: .int (iz bst) :: .int (iz bmn) :: .long (lz bsm) :: [])), (frA, .inl (G.2 0, 12, .inl (av fr))), (t2A, .inl (G.2 0, 12, .inl (av t2))), (faA, .inl (G.2 0, 12, .inl (av fa))), (akA, .inl (G.2 0, 12, .inl (av ak))), (paA, .inl (G.2 0, 30, .inl (av p_))), (ofA, .inl (G.2 0, 30, .inl (av o_)))]) [6, 0, 1, 2, 3, 4, 5] rfl
              have hD := hD.sub (ws' := [(mo, .inr (7, .int (iz th) :: .ref bsA :: .int (iz tw) :: .ref tpA :: .int (iz td) :: .int (iz sz) :: .int (iz at_) :: .int (zb iw) :: .ref loA :: .ref hiA :: .long sl :: .long sh :: .ref toA :: .ref mnA :: .ref dyA :: .int (iz sn) :: .ref frA :: .ref t2A :: .ref faA :: .int (iz dn) :: .int (zb iso) :: .ref akA :: .int (iz am) :: .int (iz wr) :: .ref paA :: .ref ofA :: .ref seA :: .ref ecA :: .int (iz em) :: .ref nmA :: .int (iz bst) :: .int (iz bmn) :: .long (lz bsm) :: [])), (frA, .inl (G.2 0, 12, .inl (av fr))), (t2A, .inl (G.2 0, 12, .inl (av t2))), (faA, .inl (G.2 0, 12, .inl (av fa))), (akA, .inl (G.2 0, 12, .inl (av ak))), (paA, .inl (G.2 0, 30, .inl (av p_))), (ofA, .inl (G.2 0, 30, .inl (av o_)))]) [6, 0, 1, 2, 3, 4, 5] (by decide) rfl
              refine zk_bif_eq (tgt := 52) hX_ hB_ dX9_joins_46 (by decide) (fun c_46 => ?_) (fun c_46 => ?_)
              · skip
                have hk9 := hak k (by omega) (by omega)
                have ho1 := UR_of hur hk9.2.1.1 hk9.2.1.2
                have ho2 := UR_of hur hk9.2.2.1.1 hk9.2.2.1.2
                have hp1 := hur.1 _ hk9.2.1.1 hk9.2.1.2
                have hp2 := hur.1 _ hk9.2.2.1.1 hk9.2.2.1.2
                have hdb1 := hdb.2.2 (by omega)
                refine lv_aload_n hX_ hB_ dX9_joins_52 rfl (lv_at hl 0 rfl) ?_
                refine va_get (D := G.1) (ci := 7) (v := .ref akA) (C := RX9) (T := TX9) (N := 33) hX_ hB_ hts hi_X9_joins_X9 hown hK.1 hP 0 rfl rfl 21 (by decide) (hts _ hw_X9_joins_091075) (fun _ h9 => h9) rfl dX9_joins_53 ?_
                refine lv_iload_n hX_ hB_ dX9_joins_56 rfl (lv_at hl 2 rfl) ?_
                refine zk_iald hX_ hB_ hK.1 hP 4 0 rfl rfl (by omega) (by decide) dX9_joins_57 ?_
                refine lv_istore_n (lv' := [(3, .int (iz (ak k))), (0, .ref mo), (1, .int (iz (ss : Int))), (2, .int (iz k))]) hX_ hB_ dX9_joins_58 rfl hl (by decide) rfl (fun ls hl => ?_)
                refine lv_aload_n hX_ hB_ dX9_joins_59 rfl (lv_at hl 1 rfl) ?_
                refine va_get (D := G.1) (ci := 7) (v := .ref frA) (C := RX9) (T := TX9) (N := 33) hX_ hB_ hts hi_X9_joins_X9 hown hK.1 hP 0 rfl rfl 16 (by decide) (hts _ hw_X9_joins_e466c3) (fun _ h9 => h9) rfl dX9_joins_60 ?_
                refine lv_iload_n hX_ hB_ dX9_joins_63 rfl (lv_at hl 0 rfl) ?_
                refine zk_iald hX_ hB_ hK.1 hP 1 0 rfl rfl (by omega) (by decide) dX9_joins_64 ?_
                refine lv_istore (lv' := [(4, .int (iz (fr (ak k)))), (3, .int (iz (ak k))), (0, .ref mo), (1, .int (iz (ss : Int))), (2, .int (iz k))]) hX_ hB_ dX9_joins_65 hl (by decide) rfl (fun ls hl => ?_)
                refine lv_aload_n hX_ hB_ dX9_joins_67 rfl (lv_at hl 2 rfl) ?_
                refine va_get (D := G.1) (ci := 7) (v := .ref t2A) (C := RX9) (T := TX9) (N := 33) hX_ hB_ hts hi_X9_joins_X9 hown hK.1 hP 0 rfl rfl 17 (by decide) (hts _ hw_X9_joins_94f793) (fun _ h9 => h9) rfl dX9_joins_68 ?_
                refine lv_iload_n hX_ hB_ dX9_joins_71 rfl (lv_at hl 1 rfl) ?_
                refine zk_iald hX_ hB_ hK.1 hP 2 0 rfl rfl (by omega) (by decide) dX9_joins_72 ?_
                refine lv_istore (lv' := [(5, .int (iz (t2 (ak k)))), (4, .int (iz (fr (ak k)))), (3, .int (iz (ak k))), (0, .ref mo), (1, .int (iz (ss : Int))), (2, .int (iz k))]) hX_ hB_ dX9_joins_73 hl (by decide) rfl (fun ls hl => ?_)
                refine lv_aload_n hX_ hB_ dX9_joins_75 rfl (lv_at hl 3 rfl) ?_
                refine va_get (D := G.1) (ci := 7) (v := .ref ofA) (C := RX9) (T := TX9) (N := 33) hX_ hB_ hts hi_X9_joins_X9 hown hK.1 hP 0 rfl rfl 25 (by decide) (hts _ hw_X9_joins_df8a6c) (fun _ h9 => h9) rfl dX9_joins_76 ?_
                refine lv_iload hX_ hB_ dX9_joins_79 (lv_at hl 1 rfl) ?_
                refine zk_iald hX_ hB_ hK.1 hP 6 0 rfl rfl (by omega) (by decide) dX9_joins_81 ?_
                refine lv_aload_n hX_ hB_ dX9_joins_82 rfl (lv_at hl 3 rfl) ?_
                refine va_get (D := G.1) (ci := 7) (v := .ref faA) (C := RX9) (T := TX9) (N := 33) hX_ hB_ hts hi_X9_joins_X9 hown hK.1 hP 0 rfl rfl 18 (by decide) (hts _ hw_X9_joins_d3f5db) (fun _ h9 => h9) rfl dX9_joins_83 ?_
                refine lv_iload_n hX_ hB_ dX9_joins_86 rfl (lv_at hl 2 rfl) ?_
                refine zk_iald hX_ hB_ hK.1 hP 3 0 rfl rfl (by omega) (by decide) dX9_joins_87 ?_
                refine zk_iadd hX_ hB_ dX9_joins_88 ?_
                refine lv_aload_n hX_ hB_ dX9_joins_89 rfl (lv_at hl 3 rfl) ?_
                refine va_get (D := G.1) (ci := 7) (v := .ref ofA) (C := RX9) (T := TX9) (N := 33) hX_ hB_ hts hi_X9_joins_X9 hown hK.1 hP 0 rfl rfl 25 (by decide) (hts _ hw_X9_joins_df8a6c) (fun _ h9 => h9) rfl dX9_joins_90 ?_
                refine lv_iload hX_ hB_ dX9_joins_93 (lv_at hl 0 rfl) ?_
                refine zk_iald hX_ hB_ hK.1 hP 6 0 rfl rfl (by omega) (by decide) dX9_joins_95 ?_
                refine zk_isub hX_ hB_ dX9_joins_96 ?_
                refine lv_istore (lv' := [(6, .int (iz (((o_ (fr (ak k))) + (fa (ak k))) - (o_ (t2 (ak k)))))), (5, .int (iz (t2 (ak k)))), (4, .int (iz (fr (ak k)))), (3, .int (iz (ak k))), (0, .ref mo), (1, .int (iz (ss : Int))), (2, .int (iz k))]) hX_ hB_ dX9_joins_97 hl (by decide) rfl (fun ls hl => ?_)
                refine lv_aload_n hX_ hB_ dX9_joins_99 rfl (lv_at hl 4 rfl) ?_
                refine va_get (D := G.1) (ci := 7) (v := .ref paA) (C := RX9) (T := TX9) (N := 33) hX_ hB_ hts hi_X9_joins_X9 hown hK.1 hP 0 rfl rfl 24 (by decide) (hts _ hw_X9_joins_c47d07) (fun _ h9 => h9) rfl dX9_joins_100 ?_
                refine lv_iload hX_ hB_ dX9_joins_103 (lv_at hl 2 rfl) ?_
                refine zk_iald hX_ hB_ hK.1 hP 5 0 rfl rfl (by omega) (by decide) dX9_joins_105 ?_
                refine lv_aload_n hX_ hB_ dX9_joins_106 rfl (lv_at hl 4 rfl) ?_
                refine va_get (D := G.1) (ci := 7) (v := .ref paA) (C := RX9) (T := TX9) (N := 33) hX_ hB_ hts hi_X9_joins_X9 hown hK.1 hP 0 rfl rfl 24 (by decide) (hts _ hw_X9_joins_c47d07) (fun _ h9 => h9) rfl dX9_joins_107 ?_
                refine lv_iload hX_ hB_ dX9_joins_110 (lv_at hl 1 rfl) ?_
                refine zk_iald hX_ hB_ hK.1 hP 5 0 rfl rfl (by omega) (by decide) dX9_joins_112 ?_
                refine zk_icmp_ne (tgt := 123) hX_ hB_ (by omega) (by omega) dX9_joins_113 (by decide) (fun c_113 => ?_) (fun c_113 => ?_)
                · skip
                  refine lv_aload_n hX_ hB_ dX9_joins_123 rfl (lv_at hl 4 rfl) ?_
                  refine va_get (D := G.1) (ci := 7) (v := .ref paA) (C := RX9) (T := TX9) (N := 33) hX_ hB_ hts hi_X9_joins_X9 hown hK.1 hP 0 rfl rfl 24 (by decide) (hts _ hw_X9_joins_c47d07) (fun _ h9 => h9) rfl dX9_joins_124 ?_
                  refine lv_iload hX_ hB_ dX9_joins_127 (lv_at hl 1 rfl) ?_
                  refine zk_iald hX_ hB_ hK.1 hP 5 0 rfl rfl (by omega) (by decide) dX9_joins_129 ?_
                  refine lv_istore (lv' := [(7, .int (iz (p_ (t2 (ak k))))), (6, .int (iz (((o_ (fr (ak k))) + (fa (ak k))) - (o_ (t2 (ak k)))))), (5, .int (iz (t2 (ak k)))), (4, .int (iz (fr (ak k)))), (3, .int (iz (ak k))), (0, .ref mo), (1, .int (iz (ss : Int))), (2, .int (iz k))]) hX_ hB_ dX9_joins_130 hl (by decide) rfl (fun ls hl => ?_)
                  refine zk_iconst hX_ hB_ dX9_joins_132 ?_
                  refine lv_istore (lv' := [(8, .int (iz 0)), (7, .int (iz (p_ (t2 (ak k))))), (6, .int (iz (((o_ (fr (ak k))) + (fa (ak k))) - (o_ (t2 (ak k)))))), (5, .int (iz (t2 (ak k)))), (4, .int (iz (fr (ak k)))), (3, .int (iz (ak k))), (0, .ref mo), (1, .int (iz (ss : Int))), (2, .int (iz k))]) hX_ hB_ dX9_joins_133 hl (by decide) rfl (fun ls hl => ?_)
                  have loop_135 : ∀ (n_135 : Nat), ∀ (i : Int) (pq : Int → Int) (oq : Int → Int), (0 ≤ i ∧ i ≤ sn) → (∀ x : Int, pq x = (if 0 ≤ x ∧ x < i ∧ p_ x = p_ (t2 (ak k)) then p_ (fr (ak k)) else p_ x)) → (∀ x : Int, oq x = (if 0 ≤ x ∧ x < i ∧ p_ x = p_ (t2 (ak k)) then o_ x + (o_ (fr (ak k)) + fa (ak k) - o_ (t2 (ak k))) else o_ x)) → ((sn - i).toNat < n_135) → ∀ (H : Heap) (locs : List Loc), va_P G.1 vwCl [(mo, .inr (7, .int (iz th) :: .ref bsA :: .int (iz tw) :: .ref tpA :: .int (iz td) :: .int (iz sz) :: .int (iz at_) :: .int (zb iw) :: .ref loA :: .ref hiA :: .long sl :: .long sh :: .ref toA :: .ref mnA :: .ref dyA :: .int (iz sn) :: .ref frA :: .ref t2A :: .ref faA :: .int (iz dn) :: .int (zb iso) :: .ref akA :: .int (iz am) :: .int (iz wr) :: .ref paA :: .ref ofA :: .ref seA :: .ref ecA :: .int (iz em) :: .ref nmA :: .int (iz bst) :: .int (iz bmn) :: .long (lz bsm) :: [])), (frA, .inl (G.2 0, 12, .inl (av fr))), (t2A, .inl (G.2 0, 12, .inl (av t2))), (faA, .inl (G.2 0, 12, .inl (av fa))), (akA, .inl (G.2 0, 12, .inl (av ak))), (paA, .inl (G.2 0, 30, .inl (av pq))), (ofA, .inl (G.2 0, 30, .inl (av oq)))] H → va_D A [(mo, .inr (7, .int (iz th) :: .ref bsA :: .int (iz tw) :: .ref tpA :: .int (iz td) :: .int (iz sz) :: .int (iz at_) :: .int (zb iw) :: .ref loA :: .ref hiA :: .long sl :: .long sh :: .ref toA :: .ref mnA :: .ref dyA :: .int (iz sn) :: .ref frA :: .ref t2A :: .ref faA :: .int (iz dn) :: .int (zb iso) :: .ref akA :: .int (iz am) :: .int (iz wr) :: .ref paA :: .ref ofA :: .ref seA :: .ref ecA :: .int (iz em) :: .ref nmA :: .int (iz bst) :: .int (iz bmn) :: .long (lz bsm) :: [])), (frA, .inl (G.2 0, 12, .inl (av fr))), (t2A, .inl (G.2 0, 12, .inl (av t2))), (faA, .inl (G.2 0, 12, .inl (av fa))), (akA, .inl (G.2 0, 12, .inl (av ak))), (paA, .inl (G.2 0, 30, .inl (av pq))), (ofA, .inl (G.2 0, 30, .inl (av oq)))] → va_S A s.heap H locs → ∀ ls : Array Slot, lv_has ls 9 [(0, .ref mo), (1, .int (iz (ss : Int))), (2, .int (iz k)), (3, .int (iz (ak k))), (4, .int (iz (fr (ak k)))), (5, .int (iz (t2 (ak k)))), (6, .int (iz (((o_ (fr (ak k))) + (fa (ak k))) - (o_ (t2 (ak k)))))), (7, .int (iz (p_ (t2 (ak k))))), (8, .int (iz i))] → W p l e ({ frames := 1, cells := 0, slots := 0, locals := 22 }) s m ([.ref mo, .int (iz (ss : Int))] : List Value).toArray below meth c H locs 0 0 (MQ below (va_Qi (fun (r : Int32) (u : Bool × (Int → Int) × (Int → Int)) => match u with | (bb, pa2, of2) => (r = (zb bb)) ∧ ((bb = true → UF sn pa2 of2 (Sat fr t2 fa ak (fun j_ => wbt ss (am - 1 - j_)) am) ∧ UR sn pa2 of2 2047500000) ∧ (bb = false → ∀ c, ¬ Sat fr t2 fa ak (fun j_ => wbt ss (am - 1 - j_)) am c))) (fun u__ t__ => Pst G A ((fun u : Bool × (Int → Int) × (Int → Int) => match u with | (bb, pa2, of2) => [(mo, .inr (7, .int (iz th) :: .ref bsA :: .int (iz tw) :: .ref tpA :: .int (iz td) :: .int (iz sz) :: .int (iz at_) :: .int (zb iw) :: .ref loA :: .ref hiA :: .long sl :: .long sh :: .ref toA :: .ref mnA :: .ref dyA :: .int (iz sn) :: .ref frA :: .ref t2A :: .ref faA :: .int (iz dn) :: .int (zb iso) :: .ref akA :: .int (iz am) :: .int (iz wr) :: .ref paA :: .ref ofA :: .ref seA :: .ref ecA :: .int (iz em) :: .ref nmA :: .int (iz bst) :: .int (iz bmn) :: .long (lz bsm) :: [])), (frA, .inl (G.2 0, 12, .inl (av fr))), (t2A, .inl (G.2 0, 12, .inl (av t2))), (faA, .inl (G.2 0, 12, .inl (av fa))), (akA, .inl (G.2 0, 12, .inl (av ak))), (paA, .inl (G.2 0, 30, .inl (av pa2))), (ofA, .inl (G.2 0, 30, .inl (av of2)))]) u__) t__) A) ([.ref mo, .int (iz (ss : Int))] : List Value).toArray s 0 0 A) (F0 m 135 ls []) := by
                    intro n_135
                    induction n_135 with
                    | zero =>
                      intro i pq oq hi hpq hoq hm H locs hP hD hS ls hl
                      exact absurd hm (Nat.not_lt_zero _)
                    | succ n_135 ih_135 =>
                      intro i pq oq hi hpq hoq hm H locs hP hD hS ls hl
                      refine lv_iload hX_ hB_ dX9_joins_135 (lv_at hl 8 rfl) ?_
                      refine lv_aload_n hX_ hB_ dX9_joins_137 rfl (lv_at hl 0 rfl) ?_
                      refine va_get (D := G.1) (ci := 7) (v := .int (iz sn)) (C := RX9) (T := TX9) (N := 33) hX_ hB_ hts hi_X9_joins_X9 hown hK.1 hP 0 rfl rfl 15 (by decide) (hts _ hw_X9_joins_39ede4) (fun _ h9 => h9) rfl dX9_joins_138 ?_
                      refine zk_icmp_ge (tgt := 191) hX_ hB_ (by omega) (by omega) dX9_joins_141 (by decide) (fun c_141 => ?_) (fun c_141 => ?_)
                      · skip
                        refine lv_iinc (v := (iz (k + 1))) (lv' := [(2, .int (iz (k + 1))), (0, .ref mo), (1, .int (iz (ss : Int))), (3, .int (iz (ak k))), (4, .int (iz (fr (ak k)))), (5, .int (iz (t2 (ak k)))), (6, .int (iz (((o_ (fr (ak k))) + (fa (ak k))) - (o_ (t2 (ak k)))))), (7, .int (iz (p_ (t2 (ak k))))), (8, .int (iz i))]) hX_ hB_ dX9_joins_191 hl (k := 2) rfl (iz_add _ _) (by decide) rfl (fun ls hl => ?_)
                        refine lv_goto (tgt := 32) hX_ hB_ dX9_joins_194 (by decide) ?_
                        have hmg := uf_merge (P' := Sat fr t2 fa ak (fun j_ => wbt ss (am - 1 - j_)) (k + 1)) huf hur hk9.2.1 hk9.2.2.1 c_113 (rfl : (o_ (fr (ak k)) + fa (ak k) - o_ (t2 (ak k))) = (o_ (fr (ak k)) + fa (ak k) - o_ (t2 (ak k)))) hk9.2.2.2 (fun x x0 x1 => ⟨(hpq x).trans (by by_cases z : p_ x = p_ (t2 (ak k)); rw [if_pos ⟨x0, by omega, z⟩, if_pos z]; rw [if_neg (fun q => z q.2.2), if_neg z]), (hoq x).trans (by by_cases z : p_ x = p_ (t2 (ak k)); rw [if_pos ⟨x0, by omega, z⟩, if_pos z]; rw [if_neg (fun q => z q.2.2), if_neg z])⟩) (fun c => sat_n hk.1 c_46 c) hdb.1
                        exact ih_32 (k + 1) pq oq (by omega) (by exact hmg.1) (by rw [show (k + 1).toNat = k.toNat + 1 from by omega]; exact hmg.2) (by omega) _ _ hP hD hS ls (lv_sub hl [1, 2, 0] rfl)
                      · skip
                        have hpi := hur.1 i (by omega) (by omega)
                        have hpqi : pq i = p_ i := by rw [hpq i, if_neg (by omega)]
                        have hoi : oq i = o_ i := by rw [hoq i, if_neg (by omega)]
                        refine lv_aload_n hX_ hB_ dX9_joins_144 rfl (lv_at hl 0 rfl) ?_
                        refine va_get (D := G.1) (ci := 7) (v := .ref paA) (C := RX9) (T := TX9) (N := 33) hX_ hB_ hts hi_X9_joins_X9 hown hK.1 hP 0 rfl rfl 24 (by decide) (hts _ hw_X9_joins_c47d07) (fun _ h9 => h9) rfl dX9_joins_145 ?_
                        refine lv_iload hX_ hB_ dX9_joins_148 (lv_at hl 8 rfl) ?_
                        refine zk_iald hX_ hB_ hK.1 hP 5 0 rfl rfl (by omega) (by decide) dX9_joins_150 ?_
                        refine lv_iload hX_ hB_ dX9_joins_151 (lv_at hl 7 rfl) ?_
                        refine zk_icmp_eq (tgt := 159) hX_ hB_ (by omega) (by omega) dX9_joins_153 (by decide) (fun c_153 => ?_) (fun c_153 => ?_)
                        · skip
                          have hgi : p_ i = p_ (t2 (ak k)) := by rw [← hpqi]; exact c_153
                          have hpa : pq (fr (ak k)) = p_ (fr (ak k)) := by rw [hpq, if_neg (fun q => c_113 q.2.2)]
                          refine lv_aload_n hX_ hB_ dX9_joins_159 rfl (lv_at hl 0 rfl) ?_
                          refine va_get (D := G.1) (ci := 7) (v := .ref paA) (C := RX9) (T := TX9) (N := 33) hX_ hB_ hts hi_X9_joins_X9 hown hK.1 hP 0 rfl rfl 24 (by decide) (hts _ hw_X9_joins_c47d07) (fun _ h9 => h9) rfl dX9_joins_160 ?_
                          refine lv_iload hX_ hB_ dX9_joins_163 (lv_at hl 8 rfl) ?_
                          refine lv_aload_n hX_ hB_ dX9_joins_165 rfl (lv_at hl 0 rfl) ?_
                          refine va_get (D := G.1) (ci := 7) (v := .ref paA) (C := RX9) (T := TX9) (N := 33) hX_ hB_ hts hi_X9_joins_X9 hown hK.1 hP 0 rfl rfl 24 (by decide) (hts _ hw_X9_joins_c47d07) (fun _ h9 => h9) rfl dX9_joins_166 ?_
                          refine lv_iload hX_ hB_ dX9_joins_169 (lv_at hl 4 rfl) ?_
                          refine zk_iald hX_ hB_ hK.1 hP 5 0 rfl rfl (by omega) (by decide) dX9_joins_171 ?_
                          refine zk_iast hX_ hB_ hK.1 hP hD hS 5 0 rfl rfl (by omega) (by decide) dX9_joins_172 (fun H locs hP hD hS => ?_)
                          have hP : va_P G.1 vwCl [(mo, .inr (7, .int (iz th) :: .ref bsA :: .int (iz tw) :: .ref tpA :: .int (iz td) :: .int (iz sz) :: .int (iz at_) :: .int (zb iw) :: .ref loA :: .ref hiA :: .long sl :: .long sh :: .ref toA :: .ref mnA :: .ref dyA :: .int (iz sn) :: .ref frA :: .ref t2A :: .ref faA :: .int (iz dn) :: .int (zb iso) :: .ref akA :: .int (iz am) :: .int (iz wr) :: .ref paA :: .ref ofA :: .ref seA :: .ref ecA :: .int (iz em) :: .ref nmA :: .int (iz bst) :: .int (iz bmn) :: .long (lz bsm) :: [])), (frA, .inl (G.2 0, 12, .inl (av fr))), (t2A, .inl (G.2 0, 12, .inl (av t2))), (faA, .inl (G.2 0, 12, .inl (av fa))), (akA, .inl (G.2 0, 12, .inl (av ak))), (paA, .inl (G.2 0, 30, .inl (av (us pq i (pq (fr (ak k))))))), (ofA, .inl (G.2 0, 30, .inl (av oq)))] _ := hP
                          have hD : va_D A [(mo, .inr (7, .int (iz th) :: .ref bsA :: .int (iz tw) :: .ref tpA :: .int (iz td) :: .int (iz sz) :: .int (iz at_) :: .int (zb iw) :: .ref loA :: .ref hiA :: .long sl :: .long sh :: .ref toA :: .ref mnA :: .ref dyA :: .int (iz sn) :: .ref frA :: .ref t2A :: .ref faA :: .int (iz dn) :: .int (zb iso) :: .ref akA :: .int (iz am) :: .int (iz wr) :: .ref paA :: .ref ofA :: .ref seA :: .ref ecA :: .int (iz em) :: .ref nmA :: .int (iz bst) :: .int (iz bmn) :: .long (lz bsm) :: [])), (frA, .inl (G.2 0, 12, .inl (av fr))), (t2A, .inl (G.2 0, 12, .inl (av t2))), (faA, .inl (G.2 0, 12, .inl (av fa))), (akA, .inl (G.2 0, 12, .inl (av ak))), (paA, .inl (G.2 0, 30, .inl (av (us pq i (pq (fr (ak k))))))), (ofA, .inl (G.2 0, 30, .inl (av oq)))] := hD
                          refine lv_aload_n hX_ hB_ dX9_joins_173 rfl (lv_at hl 0 rfl) ?_
                          refine va_get (D := G.1) (ci := 7) (v := .ref ofA) (C := RX9) (T := TX9) (N := 33) hX_ hB_ hts hi_X9_joins_X9 hown hK.1 hP 0 rfl rfl 25 (by decide) (hts _ hw_X9_joins_df8a6c) (fun _ h9 => h9) rfl dX9_joins_174 ?_
                          refine lv_iload hX_ hB_ dX9_joins_177 (lv_at hl 8 rfl) ?_
                          refine lv_dup2_11 hX_ hB_ dX9_joins_179 rfl rfl ?_
                          refine zk_iald hX_ hB_ hK.1 hP 6 0 rfl rfl (by omega) (by decide) dX9_joins_180 ?_
                          refine lv_iload hX_ hB_ dX9_joins_181 (lv_at hl 6 rfl) ?_
                          refine zk_iadd hX_ hB_ dX9_joins_183 ?_
                          refine zk_iast hX_ hB_ hK.1 hP hD hS 6 0 rfl rfl (by omega) (by decide) dX9_joins_184 (fun H locs hP hD hS => ?_)
                          have hP : va_P G.1 vwCl [(mo, .inr (7, .int (iz th) :: .ref bsA :: .int (iz tw) :: .ref tpA :: .int (iz td) :: .int (iz sz) :: .int (iz at_) :: .int (zb iw) :: .ref loA :: .ref hiA :: .long sl :: .long sh :: .ref toA :: .ref mnA :: .ref dyA :: .int (iz sn) :: .ref frA :: .ref t2A :: .ref faA :: .int (iz dn) :: .int (zb iso) :: .ref akA :: .int (iz am) :: .int (iz wr) :: .ref paA :: .ref ofA :: .ref seA :: .ref ecA :: .int (iz em) :: .ref nmA :: .int (iz bst) :: .int (iz bmn) :: .long (lz bsm) :: [])), (frA, .inl (G.2 0, 12, .inl (av fr))), (t2A, .inl (G.2 0, 12, .inl (av t2))), (faA, .inl (G.2 0, 12, .inl (av fa))), (akA, .inl (G.2 0, 12, .inl (av ak))), (paA, .inl (G.2 0, 30, .inl (av (us pq i (pq (fr (ak k))))))), (ofA, .inl (G.2 0, 30, .inl (av (us oq i ((oq i) + (((o_ (fr (ak k))) + (fa (ak k))) - (o_ (t2 (ak k)))))))))] _ := hP
                          have hD : va_D A [(mo, .inr (7, .int (iz th) :: .ref bsA :: .int (iz tw) :: .ref tpA :: .int (iz td) :: .int (iz sz) :: .int (iz at_) :: .int (zb iw) :: .ref loA :: .ref hiA :: .long sl :: .long sh :: .ref toA :: .ref mnA :: .ref dyA :: .int (iz sn) :: .ref frA :: .ref t2A :: .ref faA :: .int (iz dn) :: .int (zb iso) :: .ref akA :: .int (iz am) :: .int (iz wr) :: .ref paA :: .ref ofA :: .ref seA :: .ref ecA :: .int (iz em) :: .ref nmA :: .int (iz bst) :: .int (iz bmn) :: .long (lz bsm) :: [])), (frA, .inl (G.2 0, 12, .inl (av fr))), (t2A, .inl (G.2 0, 12, .inl (av t2))), (faA, .inl (G.2 0, 12, .inl (av fa))), (akA, .inl (G.2 0, 12, .inl (av ak))), (paA, .inl (G.2 0, 30, .inl (av (us pq i (pq (fr (ak k))))))), (ofA, .inl (G.2 0, 30, .inl (av (us oq i ((oq i) + (((o_ (fr (ak k))) + (fa (ak k))) - (o_ (t2 (ak k)))))))))] := hD
                          refine lv_iinc (v := (iz (i + 1))) (lv' := [(8, .int (iz (i + 1))), (0, .ref mo), (1, .int (iz (ss : Int))), (2, .int (iz k)), (3, .int (iz (ak k))), (4, .int (iz (fr (ak k)))), (5, .int (iz (t2 (ak k)))), (6, .int (iz (((o_ (fr (ak k))) + (fa (ak k))) - (o_ (t2 (ak k)))))), (7, .int (iz (p_ (t2 (ak k)))))]) hX_ hB_ dX9_joins_185 hl (k := 8) rfl (iz_add _ _) (by decide) rfl (fun ls hl => ?_)
                          refine lv_goto (tgt := 135) hX_ hB_ dX9_joins_188 (by decide) ?_
                          exact ih_135 (i + 1) (us pq i (pq (fr (ak k)))) (us oq i ((oq i) + (((o_ (fr (ak k))) + (fa (ak k))) - (o_ (t2 (ak k)))))) (by omega) (by intro x; unfold us; by_cases u : x = i; (rw [if_pos u, u, if_pos ⟨hi.1, by omega, hgi⟩]; exact hpa); (rw [if_neg u, hpq x]; by_cases z : 0 ≤ x ∧ x < i ∧ p_ x = p_ (t2 (ak k)); (rw [if_pos z, if_pos ⟨z.1, by omega, z.2.2⟩]); (rw [if_neg z, if_neg (fun q => z ⟨q.1, by omega, q.2.2⟩)]))) (by intro x; unfold us; by_cases u : x = i; (rw [if_pos u, u, if_pos ⟨hi.1, by omega, hgi⟩, hoi]); (rw [if_neg u, hoq x]; by_cases z : 0 ≤ x ∧ x < i ∧ p_ x = p_ (t2 (ak k)); (rw [if_pos z, if_pos ⟨z.1, by omega, z.2.2⟩]); (rw [if_neg z, if_neg (fun q => z ⟨q.1, by omega, q.2.2⟩)]))) (by omega) _ _ hP hD hS ls (lv_sub hl [1, 2, 3, 4, 5, 6, 7, 8, 0] rfl)
                        · skip
                          have hgi : ¬ p_ i = p_ (t2 (ak k)) := fun q => c_153 (by rw [hpqi]; exact q)
                          refine lv_goto (tgt := 185) hX_ hB_ dX9_joins_156 (by decide) ?_
                          refine lv_iinc (v := (iz (i + 1))) (lv' := [(8, .int (iz (i + 1))), (0, .ref mo), (1, .int (iz (ss : Int))), (2, .int (iz k)), (3, .int (iz (ak k))), (4, .int (iz (fr (ak k)))), (5, .int (iz (t2 (ak k)))), (6, .int (iz (((o_ (fr (ak k))) + (fa (ak k))) - (o_ (t2 (ak k)))))), (7, .int (iz (p_ (t2 (ak k)))))]) hX_ hB_ dX9_joins_185 hl (k := 8) rfl (iz_add _ _) (by decide) rfl (fun ls hl => ?_)
                          refine lv_goto (tgt := 135) hX_ hB_ dX9_joins_188 (by decide) ?_
                          exact ih_135 (i + 1) pq oq (by omega) (by intro x; rw [hpq x]; by_cases z : 0 ≤ x ∧ x < i ∧ p_ x = p_ (t2 (ak k)); (rw [if_pos z, if_pos ⟨z.1, by omega, z.2.2⟩]); (rw [if_neg z, if_neg (fun q => z ⟨q.1, by rcases (show x < i ∨ x = i by omega) with u | u; exact u; (rw [u] at q; exact absurd q.2.2 hgi), q.2.2⟩)])) (by intro x; rw [hoq x]; by_cases z : 0 ≤ x ∧ x < i ∧ p_ x = p_ (t2 (ak k)); (rw [if_pos z, if_pos ⟨z.1, by omega, z.2.2⟩]); (rw [if_neg z, if_neg (fun q => z ⟨q.1, by rcases (show x < i ∨ x = i by omega) with u | u; exact u; (rw [u] at q; exact absurd q.2.2 hgi), q.2.2⟩)])) (by omega) _ _ hP hD hS ls (lv_sub hl [1, 2, 3, 4, 5, 6, 7, 8, 0] rfl)
                  exact loop_135 _ 0 p_ o_ (by omega) (by intro x; rw [if_neg (by omega)]) (by intro x; rw [if_neg (by omega)]) (Nat.lt_succ_self _) _ _ hP hD hS ls (lv_sub hl [6, 7, 8, 5, 4, 3, 2, 1, 0] rfl)
                · skip
                  refine lv_iload hX_ hB_ dX9_joins_116 (lv_at hl 0 rfl) ?_
                  refine zk_if_eq (tgt := 191) hX_ hB_ (by omega) dX9_joins_118 (by decide) (fun c_118 => ?_) (fun c_118 => ?_)
                  · skip
                    refine lv_iinc (v := (iz (k + 1))) (lv' := [(2, .int (iz (k + 1))), (6, .int (iz (((o_ (fr (ak k))) + (fa (ak k))) - (o_ (t2 (ak k)))))), (5, .int (iz (t2 (ak k)))), (4, .int (iz (fr (ak k)))), (3, .int (iz (ak k))), (0, .ref mo), (1, .int (iz (ss : Int)))]) hX_ hB_ dX9_joins_191 hl (k := 6) rfl (iz_add _ _) (by decide) rfl (fun ls hl => ?_)
                    refine lv_goto (tgt := 32) hX_ hB_ dX9_joins_194 (by decide) ?_
                    exact ih_32 (k + 1) p_ o_ (by omega) (by exact uf_same huf (fun c q => (sat_n hk.1 c_46 c).mpr ⟨q, by have z := (huf c).mp q (fr (ak k)) (t2 (ak k)) hk9.2.1.1 hk9.2.1.2 hk9.2.2.1.1 hk9.2.2.1.2 c_113; omega⟩) (fun c q => ((sat_n hk.1 c_46 c).mp q).1)) (by rw [show (k + 1).toNat = k.toNat + 1 from by omega]; exact ⟨hur.1, fun x y x0 x1 y0 y1 he => by have q := hur.2 x y x0 x1 y0 y1 he; unfold Db; omega⟩) (by omega) _ _ hP hD hS ls (lv_sub hl [5, 6, 0] rfl)
                  · skip
                    refine zk_iconst hX_ hB_ dX9_joins_121 ?_
                    refine zk_topi (y := (zb false)) rfl ?_
                    exact fin_i (wf := (fun u : Bool × (Int → Int) × (Int → Int) => match u with | (bb, pa2, of2) => [(mo, .inr (7, .int (iz th) :: .ref bsA :: .int (iz tw) :: .ref tpA :: .int (iz td) :: .int (iz sz) :: .int (iz at_) :: .int (zb iw) :: .ref loA :: .ref hiA :: .long sl :: .long sh :: .ref toA :: .ref mnA :: .ref dyA :: .int (iz sn) :: .ref frA :: .ref t2A :: .ref faA :: .int (iz dn) :: .int (zb iso) :: .ref akA :: .int (iz am) :: .int (iz wr) :: .ref paA :: .ref ofA :: .ref seA :: .ref ecA :: .int (iz em) :: .ref nmA :: .int (iz bst) :: .int (iz bmn) :: .long (lz bsm) :: [])), (frA, .inl (G.2 0, 12, .inl (av fr))), (t2A, .inl (G.2 0, 12, .inl (av t2))), (faA, .inl (G.2 0, 12, .inl (av fa))), (akA, .inl (G.2 0, 12, .inl (av ak))), (paA, .inl (G.2 0, 30, .inl (av pa2))), (ofA, .inl (G.2 0, 30, .inl (av of2)))])) (false, p_, o_) F (zb_nar _) hP hD hK hS (by decide) (by decide) dX9_joins_122 (by exact ⟨rfl, fun q => absurd q (by decide), fun _ c q => by have q2 := (sat_n hk.1 c_46 c).mp (sat_le (by omega) q); have z := (huf c).mp q2.1 (fr (ak k)) (t2 (ak k)) hk9.2.1.1 hk9.2.1.2 hk9.2.2.1.1 hk9.2.2.1.2 c_113; have z2 := q2.2; omega⟩)
              · skip
                refine lv_goto (tgt := 191) hX_ hB_ dX9_joins_49 (by decide) ?_
                refine lv_iinc (v := (iz (k + 1))) (lv' := [(2, .int (iz (k + 1))), (0, .ref mo), (1, .int (iz (ss : Int)))]) hX_ hB_ dX9_joins_191 hl (k := 2) rfl (iz_add _ _) (by decide) rfl (fun ls hl => ?_)
                refine lv_goto (tgt := 32) hX_ hB_ dX9_joins_194 (by decide) ?_
                exact ih_32 (k + 1) p_ o_ (by omega) (by exact uf_same huf (fun c q => (sat_w (Wk := (fun j_ => wbt ss (am - 1 - j_))) c_46 c).mpr q) (fun c q => (sat_w (Wk := (fun j_ => wbt ss (am - 1 - j_))) c_46 c).mp q)) (by rw [show (k + 1).toNat = k.toNat + 1 from by omega]; exact ⟨hur.1, fun x y x0 x1 y0 y1 he => by have q := hur.2 x y x0 x1 y0 y1 he; unfold Db; omega⟩) (by omega) _ _ hP hD hS ls (lv_sub hl [1, 2, 0] rfl)
        exact loop_32 _ 0 p_ o_ (by omega) (by exact (uf_init (fun x h1 h2 => hpo x h1 (by omega))).1) (by exact (uf_init (fF := fr) (tT := t2) (dD := fa) (ak := ak) (Wk := fun _ => true) (fun x h1 h2 => hpo x h1 (by omega))).2) (Nat.lt_succ_self _) _ _ hP hD hS ls (lv_sub hl [1, 2, 0] rfl)
      · skip
        refine lv_aload_n hX_ hB_ dX9_joins_10 rfl (lv_at hl 0 rfl) ?_
        refine va_get (D := G.1) (ci := 7) (v := .ref paA) (C := RX9) (T := TX9) (N := 33) hX_ hB_ hts hi_X9_joins_X9 hown hK.1 hP 0 rfl rfl 24 (by decide) (hts _ hw_X9_joins_c47d07) (fun _ h9 => h9) rfl dX9_joins_11 ?_
        refine lv_iload_n hX_ hB_ dX9_joins_14 rfl (lv_at hl 2 rfl) ?_
        refine lv_iload_n hX_ hB_ dX9_joins_15 rfl (lv_at hl 2 rfl) ?_
        refine zk_iast hX_ hB_ hK.1 hP hD hS 5 0 rfl rfl (by omega) (by decide) dX9_joins_16 (fun H locs hP hD hS => ?_)
        have hP : va_P G.1 vwCl [(mo, .inr (7, .int (iz th) :: .ref bsA :: .int (iz tw) :: .ref tpA :: .int (iz td) :: .int (iz sz) :: .int (iz at_) :: .int (zb iw) :: .ref loA :: .ref hiA :: .long sl :: .long sh :: .ref toA :: .ref mnA :: .ref dyA :: .int (iz sn) :: .ref frA :: .ref t2A :: .ref faA :: .int (iz dn) :: .int (zb iso) :: .ref akA :: .int (iz am) :: .int (iz wr) :: .ref paA :: .ref ofA :: .ref seA :: .ref ecA :: .int (iz em) :: .ref nmA :: .int (iz bst) :: .int (iz bmn) :: .long (lz bsm) :: [])), (frA, .inl (G.2 0, 12, .inl (av fr))), (t2A, .inl (G.2 0, 12, .inl (av t2))), (faA, .inl (G.2 0, 12, .inl (av fa))), (akA, .inl (G.2 0, 12, .inl (av ak))), (paA, .inl (G.2 0, 30, .inl (av (us p_ i i)))), (ofA, .inl (G.2 0, 30, .inl (av o_)))] _ := hP
        have hD : va_D A [(mo, .inr (7, .int (iz th) :: .ref bsA :: .int (iz tw) :: .ref tpA :: .int (iz td) :: .int (iz sz) :: .int (iz at_) :: .int (zb iw) :: .ref loA :: .ref hiA :: .long sl :: .long sh :: .ref toA :: .ref mnA :: .ref dyA :: .int (iz sn) :: .ref frA :: .ref t2A :: .ref faA :: .int (iz dn) :: .int (zb iso) :: .ref akA :: .int (iz am) :: .int (iz wr) :: .ref paA :: .ref ofA :: .ref seA :: .ref ecA :: .int (iz em) :: .ref nmA :: .int (iz bst) :: .int (iz bmn) :: .long (lz bsm) :: [])), (frA, .inl (G.2 0, 12, .inl (av fr))), (t2A, .inl (G.2 0, 12, .inl (av t2))), (faA, .inl (G.2 0, 12, .inl (av fa))), (akA, .inl (G.2 0, 12, .inl (av ak))), (paA, .inl (G.2 0, 30, .inl (av (us p_ i i)))), (ofA, .inl (G.2 0, 30, .inl (av o_)))] := hD
        refine lv_aload_n hX_ hB_ dX9_joins_17 rfl (lv_at hl 0 rfl) ?_
        refine va_get (D := G.1) (ci := 7) (v := .ref ofA) (C := RX9) (T := TX9) (N := 33) hX_ hB_ hts hi_X9_joins_X9 hown hK.1 hP 0 rfl rfl 25 (by decide) (hts _ hw_X9_joins_df8a6c) (fun _ h9 => h9) rfl dX9_joins_18 ?_
        refine lv_iload_n hX_ hB_ dX9_joins_21 rfl (lv_at hl 2 rfl) ?_
        refine zk_iconst hX_ hB_ dX9_joins_22 ?_
        refine zk_iast hX_ hB_ hK.1 hP hD hS 6 0 rfl rfl (by omega) (by decide) dX9_joins_23 (fun H locs hP hD hS => ?_)
        have hP : va_P G.1 vwCl [(mo, .inr (7, .int (iz th) :: .ref bsA :: .int (iz tw) :: .ref tpA :: .int (iz td) :: .int (iz sz) :: .int (iz at_) :: .int (zb iw) :: .ref loA :: .ref hiA :: .long sl :: .long sh :: .ref toA :: .ref mnA :: .ref dyA :: .int (iz sn) :: .ref frA :: .ref t2A :: .ref faA :: .int (iz dn) :: .int (zb iso) :: .ref akA :: .int (iz am) :: .int (iz wr) :: .ref paA :: .ref ofA :: .ref seA :: .ref ecA :: .int (iz em) :: .ref nmA :: .int (iz bst) :: .int (iz bmn) :: .long (lz bsm) :: [])), (frA, .inl (G.2 0, 12, .inl (av fr))), (t2A, .inl (G.2 0, 12, .inl (av t2))), (faA, .inl (G.2 0, 12, .inl (av fa))), (akA, .inl (G.2 0, 12, .inl (av ak))), (paA, .inl (G.2 0, 30, .inl (av (us p_ i i)))), (ofA, .inl (G.2 0, 30, .inl (av (us o_ i 0))))] _ := hP
        have hD : va_D A [(mo, .inr (7, .int (iz th) :: .ref bsA :: .int (iz tw) :: .ref tpA :: .int (iz td) :: .int (iz sz) :: .int (iz at_) :: .int (zb iw) :: .ref loA :: .ref hiA :: .long sl :: .long sh :: .ref toA :: .ref mnA :: .ref dyA :: .int (iz sn) :: .ref frA :: .ref t2A :: .ref faA :: .int (iz dn) :: .int (zb iso) :: .ref akA :: .int (iz am) :: .int (iz wr) :: .ref paA :: .ref ofA :: .ref seA :: .ref ecA :: .int (iz em) :: .ref nmA :: .int (iz bst) :: .int (iz bmn) :: .long (lz bsm) :: [])), (frA, .inl (G.2 0, 12, .inl (av fr))), (t2A, .inl (G.2 0, 12, .inl (av t2))), (faA, .inl (G.2 0, 12, .inl (av fa))), (akA, .inl (G.2 0, 12, .inl (av ak))), (paA, .inl (G.2 0, 30, .inl (av (us p_ i i)))), (ofA, .inl (G.2 0, 30, .inl (av (us o_ i 0))))] := hD
        refine lv_iinc (v := (iz (i + 1))) (lv' := [(2, .int (iz (i + 1))), (0, .ref mo), (1, .int (iz (ss : Int)))]) hX_ hB_ dX9_joins_24 hl (k := 2) rfl (iz_add _ _) (by decide) rfl (fun ls hl => ?_)
        refine lv_goto (tgt := 2) hX_ hB_ dX9_joins_27 (by decide) ?_
        exact ih_2 (i + 1) (us p_ i i) (us o_ i 0) (by omega) (by intro x h1 h2; unfold us; by_cases q : x = i; (rw [if_pos q, if_pos q]; exact ⟨q.symm, rfl⟩); (rw [if_neg q, if_neg q]; exact hpo x h1 (by omega))) (by omega) _ _ hP hD hS ls (lv_sub hl [1, 2, 0] rfl)
  exact loop_2 _ 0 pa of (by omega) (by intro x h1 h2; omega) (Nat.lt_succ_self _) _ _ hP hD hS ls (lv_sub hl [1, 2, 0] rfl)
