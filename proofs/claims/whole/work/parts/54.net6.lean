
/-- how many of the first are wrong -/
def cb (w : Nat) (i : Int) : Int := (cnt (fun k => wbt w (k : Int)) i.toNat : Nat)
theorem cb_0 (w : Nat) (i : Int) : 0 ≤ cb w i ∧ cb w i ≤ i.toNat := by
  unfold cb
  have := cnt_le (fun k => wbt w (k : Int)) i.toNat
  omega
theorem cb_s {w : Nat} {i : Int} (hi : 0 ≤ i) : cb w (i + 1) = cb w i + bz (wbt w i) := by
  unfold cb bz
  rw [show (i + 1).toNat = i.toNat + 1 from by omega]
  show ((cnt _ _ + (if wbt w ((i.toNat : Nat) : Int) then 1 else 0) : Nat) : Int) = _
  rw [show ((i.toNat : Nat) : Int) = i from by omega]
  split <;> simp
theorem cb_le {w : Nat} {i j : Int} (hi : 0 ≤ i) (h : i ≤ j) : cb w i ≤ cb w j := by
  obtain ⟨n, rfl⟩ : ∃ n : Nat, j = i + n := ⟨(j - i).toNat, by omega⟩
  clear h
  induction n with
  | zero => simp
  | succ n ih =>
    have := cb_s (w := w) (i := i + n) (by omega)
    have b := bz_01 (wbt w (i + n))
    rw [show i + ((n + 1 : Nat) : Int) = i + n + 1 from by omega]
    omega
theorem hw_X3_wrongAt_0faae4 : (.fieldLink RX3 48 "StoneDates$Net" "size" "I" : Cond) ∈ wsX3_wrongAt := by decide +kernel
theorem hi_X3_wrongAt_X3 : ∀ w ∈ u_ws RX3 TX3 13, w ∈ wsX3_wrongAt := by decide +kernel
theorem hw_X3_wrongAt_48326f : (.fieldLink RX3 65 "StoneDates$Net" "wrongs" "I" : Cond) ∈ wsX3_wrongAt := by decide +kernel
set_option maxHeartbeats 4000000 in
set_option maxRecDepth 100000 in
theorem c_X3_wrongAt (l : Launch) (G : GG) (nt : Nat) (mem : Nat) (fr : Nat) (to_ : Nat) (da : Nat) (gr : Nat) (of_ : Nat) (jo : Nat) (jsA : Nat) (ad : Nat → Nat) (mb : Int → Option Nat) (fF : Int → Int) (tT : Int → Int) (dD : Int → Int) (js : Int → Int) (M : Nat → Int → Int) (size : Int) (mcn : Int) (few : Int) (slv : Int) (wg : Nat) (k : Int) (hs : 0 ≤ size ∧ size ≤ 12) (hw4 : wg < 4096) (hk : R31 k) : Ci l yX3_wrongAt wsX3_wrongAt ({ frames := 0, cells := 0, slots := 0, locals := 0 }) G E0 [.ref nt, .int (iz k)] (wpl [(nt, .inr (1, [.int (iz size), .int (iz mcn), .int (iz few), .int (iz (wg : Int)), .int (iz slv), .ref mem, .ref fr, .ref to_, .ref da, .ref gr, .ref of_, .ref jo, .ref jsA])), (mem, .inl (G.2 4, 30, .inr (.inr (.inr (.inr (rv mb)))))), (fr, .inl (G.2 0, 12, .inl (av fF))), (to_, .inl (G.2 0, 12, .inl (av tT))), (da, .inl (G.2 0, 12, .inl (av dD))), (gr, .inl (G.2 5, 13, .inr (.inr (.inr (.inr (rv (fun k_ => some (ad (k_ + 0).toNat)))))))), (of_, .inl (G.2 5, 13, .inr (.inr (.inr (.inr (rv (fun k_ => some (ad (k_ + 13).toNat)))))))), (jo, .inl (G.2 5, 12, .inr (.inr (.inr (.inr (rv (fun k_ => some (ad (k_ + 26).toNat)))))))), (jsA, .inl (G.2 0, 12, .inl (av js)))] (rows 38 ad (ctM G M))) 0 0 (fun h : Int => (wpl [(nt, .inr (1, [.int (iz size), .int (iz mcn), .int (iz few), .int (iz (wg : Int)), .int (iz slv), .ref mem, .ref fr, .ref to_, .ref da, .ref gr, .ref of_, .ref jo, .ref jsA])), (mem, .inl (G.2 4, 30, .inr (.inr (.inr (.inr (rv mb)))))), (fr, .inl (G.2 0, 12, .inl (av fF))), (to_, .inl (G.2 0, 12, .inl (av tT))), (da, .inl (G.2 0, 12, .inl (av dD))), (gr, .inl (G.2 5, 13, .inr (.inr (.inr (.inr (rv (fun k_ => some (ad (k_ + 0).toNat)))))))), (of_, .inl (G.2 5, 13, .inr (.inr (.inr (.inr (rv (fun k_ => some (ad (k_ + 13).toNat)))))))), (jo, .inl (G.2 5, 12, .inr (.inr (.inr (.inr (rv (fun k_ => some (ad (k_ + 26).toNat)))))))), (jsA, .inl (G.2 0, 12, .inl (av js)))] (rows 38 ad (ctM G M)))) (fun (r : Int32) (h : Int) => (r = (iz h)) ∧ ((0 ≤ h ∧ h < size ∧ wbt wg h = true ∧ cb wg h = k) ∨ (h = -1 ∧ ∀ j : Int, 0 ≤ j → j < size → wbt wg j = true → cb wg j ≠ k))) := by
  refine Ci_intro (cc := cX3_wrongAt) (maxL := 4) (ret := (some .int)) (by decide) rfl (Nat.le_of_ble_eq_true rfl) ?_
  intro p e s m below meth c A F hA hP hD hK hE ls hl
  have hX_ := F.1
  have hB_ := F.2.1
  have hts := F.2.2.2.2.2.1
  have hown := F.2.2.2.2.1
  have hml := F.2.2.2.1
  have hS : va_S A s.heap s.heap [] := va_S.rf
  have hl : lv_has ls 4 [(0, .ref nt), (1, .int (iz k))] := hl
  refine lv_iload_n hX_ hB_ dX3_wrongAt_0 rfl (lv_at hl 1 rfl) ?_
  refine lv_istore_n (lv' := [(2, .int (iz k)), (0, .ref nt), (1, .int (iz k))]) hX_ hB_ dX3_wrongAt_1 rfl hl (by decide) rfl (fun ls hl => ?_)
  refine zk_iconst hX_ hB_ dX3_wrongAt_2 ?_
  refine lv_istore_n (lv' := [(3, .int (iz 0)), (2, .int (iz k)), (0, .ref nt), (1, .int (iz k))]) hX_ hB_ dX3_wrongAt_3 rfl hl (by decide) rfl (fun ls hl => ?_)
  have loop_4 : ∀ (n_4 : Nat), ∀ (i : Int) (lf : Int), (0 ≤ i ∧ i ≤ size) → (lf = k - cb wg i ∧ (i = 0 ∧ lf = k ∨ 0 ≤ lf ∨ lf = k)) → (∀ j : Int, 0 ≤ j → j < i → wbt wg j = true → cb wg j ≠ k) → ((size - i).toNat < n_4) → ∀ (H : Heap) (locs : List Loc), va_P G.1 vwCl (wpl [(nt, .inr (1, [.int (iz size), .int (iz mcn), .int (iz few), .int (iz (wg : Int)), .int (iz slv), .ref mem, .ref fr, .ref to_, .ref da, .ref gr, .ref of_, .ref jo, .ref jsA])), (mem, .inl (G.2 4, 30, .inr (.inr (.inr (.inr (rv mb)))))), (fr, .inl (G.2 0, 12, .inl (av fF))), (to_, .inl (G.2 0, 12, .inl (av tT))), (da, .inl (G.2 0, 12, .inl (av dD))), (gr, .inl (G.2 5, 13, .inr (.inr (.inr (.inr (rv (fun k_ => some (ad (k_ + 0).toNat)))))))), (of_, .inl (G.2 5, 13, .inr (.inr (.inr (.inr (rv (fun k_ => some (ad (k_ + 13).toNat)))))))), (jo, .inl (G.2 5, 12, .inr (.inr (.inr (.inr (rv (fun k_ => some (ad (k_ + 26).toNat)))))))), (jsA, .inl (G.2 0, 12, .inl (av js)))] (rows 38 ad (ctM G M))) H → va_D A (wpl [(nt, .inr (1, [.int (iz size), .int (iz mcn), .int (iz few), .int (iz (wg : Int)), .int (iz slv), .ref mem, .ref fr, .ref to_, .ref da, .ref gr, .ref of_, .ref jo, .ref jsA])), (mem, .inl (G.2 4, 30, .inr (.inr (.inr (.inr (rv mb)))))), (fr, .inl (G.2 0, 12, .inl (av fF))), (to_, .inl (G.2 0, 12, .inl (av tT))), (da, .inl (G.2 0, 12, .inl (av dD))), (gr, .inl (G.2 5, 13, .inr (.inr (.inr (.inr (rv (fun k_ => some (ad (k_ + 0).toNat)))))))), (of_, .inl (G.2 5, 13, .inr (.inr (.inr (.inr (rv (fun k_ => some (ad (k_ + 13).toNat)))))))), (jo, .inl (G.2 5, 12, .inr (.inr (.inr (.inr (rv (fun k_ => some (ad (k_ + 26).toNat)))))))), (jsA, .inl (G.2 0, 12, .inl (av js)))] (rows 38 ad (ctM G M))) → va_S A s.heap H locs → ∀ ls : Array Slot, lv_has ls 4 [(0, .ref nt), (1, .int (iz k)), (2, .int (iz lf)), (3, .int (iz i))] → W p l e ({ frames := 0, cells := 0, slots := 0, locals := 0 }) s m ([.ref nt, .int (iz k)] : List Value).toArray below meth c H locs 0 0 (MQ below (va_Qi (fun (r : Int32) (h : Int) => (r = (iz h)) ∧ ((0 ≤ h ∧ h < size ∧ wbt wg h = true ∧ cb wg h = k) ∨ (h = -1 ∧ ∀ j : Int, 0 ≤ j → j < size → wbt wg j = true → cb wg j ≠ k))) (fun u__ t__ => Pst G A ((fun h : Int => (wpl [(nt, .inr (1, [.int (iz size), .int (iz mcn), .int (iz few), .int (iz (wg : Int)), .int (iz slv), .ref mem, .ref fr, .ref to_, .ref da, .ref gr, .ref of_, .ref jo, .ref jsA])), (mem, .inl (G.2 4, 30, .inr (.inr (.inr (.inr (rv mb)))))), (fr, .inl (G.2 0, 12, .inl (av fF))), (to_, .inl (G.2 0, 12, .inl (av tT))), (da, .inl (G.2 0, 12, .inl (av dD))), (gr, .inl (G.2 5, 13, .inr (.inr (.inr (.inr (rv (fun k_ => some (ad (k_ + 0).toNat)))))))), (of_, .inl (G.2 5, 13, .inr (.inr (.inr (.inr (rv (fun k_ => some (ad (k_ + 13).toNat)))))))), (jo, .inl (G.2 5, 12, .inr (.inr (.inr (.inr (rv (fun k_ => some (ad (k_ + 26).toNat)))))))), (jsA, .inl (G.2 0, 12, .inl (av js)))] (rows 38 ad (ctM G M)))) u__) t__) A) ([.ref nt, .int (iz k)] : List Value).toArray s 0 0 A) (F0 m 4 ls []) := by
    intro n_4
    induction n_4 with
    | zero =>
      intro i lf hi hlf hno hm H locs hP hD hS ls hl
      exact absurd hm (Nat.not_lt_zero _)
    | succ n_4 ih_4 =>
      intro i lf hi hlf hno hm H locs hP hD hS ls hl
      have hc0 := cb_0 wg i
      refine lv_iload_n hX_ hB_ dX3_wrongAt_4 rfl (lv_at hl 3 rfl) ?_
      refine lv_aload_n hX_ hB_ dX3_wrongAt_5 rfl (lv_at hl 0 rfl) ?_
      refine va_get (D := G.1) (ci := 1) (v := .int (iz size)) (C := RX3) (T := TX3) (N := 13) hX_ hB_ hts hi_X3_wrongAt_X3 hown hK.1 hP 0 rfl rfl 0 (by decide) (hts _ hw_X3_wrongAt_0faae4) (fun _ h9 => h9) rfl dX3_wrongAt_6 ?_
      refine zk_icmp_ge (tgt := 42) hX_ hB_ (by omega) (by omega) dX3_wrongAt_9 (by decide) (fun c_9 => ?_) (fun c_9 => ?_)
      · skip
        refine zk_iconst hX_ hB_ dX3_wrongAt_42 ?_
        exact fin_i (wf := (fun h : Int => (wpl [(nt, .inr (1, [.int (iz size), .int (iz mcn), .int (iz few), .int (iz (wg : Int)), .int (iz slv), .ref mem, .ref fr, .ref to_, .ref da, .ref gr, .ref of_, .ref jo, .ref jsA])), (mem, .inl (G.2 4, 30, .inr (.inr (.inr (.inr (rv mb)))))), (fr, .inl (G.2 0, 12, .inl (av fF))), (to_, .inl (G.2 0, 12, .inl (av tT))), (da, .inl (G.2 0, 12, .inl (av dD))), (gr, .inl (G.2 5, 13, .inr (.inr (.inr (.inr (rv (fun k_ => some (ad (k_ + 0).toNat)))))))), (of_, .inl (G.2 5, 13, .inr (.inr (.inr (.inr (rv (fun k_ => some (ad (k_ + 13).toNat)))))))), (jo, .inl (G.2 5, 12, .inr (.inr (.inr (.inr (rv (fun k_ => some (ad (k_ + 26).toNat)))))))), (jsA, .inl (G.2 0, 12, .inl (av js)))] (rows 38 ad (ctM G M))))) (-1) F rfl hP hD hK hS (by decide) (by decide) dX3_wrongAt_43 (by exact ⟨rfl, Or.inr ⟨rfl, fun j q1 q2 q3 => by by_cases e1 : j < i; exact hno j q1 e1 q3; first | omega | (have := cb_le (w := wg) hi.1 (show i ≤ j by omega); omega)⟩⟩)
      · skip
        refine lv_iload_n hX_ hB_ dX3_wrongAt_12 rfl (lv_at hl 2 rfl) ?_
        refine zk_if_lt (tgt := 42) hX_ hB_ (by omega) dX3_wrongAt_13 (by decide) (fun c_13 => ?_) (fun c_13 => ?_)
        · skip
          refine zk_iconst hX_ hB_ dX3_wrongAt_42 ?_
          exact fin_i (wf := (fun h : Int => (wpl [(nt, .inr (1, [.int (iz size), .int (iz mcn), .int (iz few), .int (iz (wg : Int)), .int (iz slv), .ref mem, .ref fr, .ref to_, .ref da, .ref gr, .ref of_, .ref jo, .ref jsA])), (mem, .inl (G.2 4, 30, .inr (.inr (.inr (.inr (rv mb)))))), (fr, .inl (G.2 0, 12, .inl (av fF))), (to_, .inl (G.2 0, 12, .inl (av tT))), (da, .inl (G.2 0, 12, .inl (av dD))), (gr, .inl (G.2 5, 13, .inr (.inr (.inr (.inr (rv (fun k_ => some (ad (k_ + 0).toNat)))))))), (of_, .inl (G.2 5, 13, .inr (.inr (.inr (.inr (rv (fun k_ => some (ad (k_ + 13).toNat)))))))), (jo, .inl (G.2 5, 12, .inr (.inr (.inr (.inr (rv (fun k_ => some (ad (k_ + 26).toNat)))))))), (jsA, .inl (G.2 0, 12, .inl (av js)))] (rows 38 ad (ctM G M))))) (-1) F rfl hP hD hK hS (by decide) (by decide) dX3_wrongAt_43 (by exact ⟨rfl, Or.inr ⟨rfl, fun j q1 q2 q3 => by by_cases e1 : j < i; exact hno j q1 e1 q3; first | omega | (have := cb_le (w := wg) hi.1 (show i ≤ j by omega); omega)⟩⟩)
        · skip
          have hbz := bz_01 (wbt wg i)
          have hcs := cb_s (w := wg) hi.1
          refine lv_aload_n hX_ hB_ dX3_wrongAt_16 rfl (lv_at hl 0 rfl) ?_
          refine va_get (D := G.1) (ci := 1) (v := .int (iz (wg : Int))) (C := RX3) (T := TX3) (N := 13) hX_ hB_ hts hi_X3_wrongAt_X3 hown hK.1 hP 0 rfl rfl 3 (by decide) (hts _ hw_X3_wrongAt_48326f) (fun _ h9 => h9) rfl dX3_wrongAt_17 ?_
          refine lv_iload_n hX_ hB_ dX3_wrongAt_20 rfl (lv_at hl 3 rfl) ?_
          refine lv_ishr hX_ hB_ dX3_wrongAt_21 ?_
          refine zk_iconst hX_ hB_ dX3_wrongAt_22 ?_
          refine lv_iand hX_ hB_ dX3_wrongAt_23 ?_
          refine zk_topi (y := (iz (bz (wbt wg i)))) (sh_ok (by omega) hw4) ?_
          refine zk_if_eq (tgt := 36) hX_ hB_ (by omega) dX3_wrongAt_24 (by decide) (fun c_24 => ?_) (fun c_24 => ?_)
          · skip
            refine lv_iinc (v := (iz (i + 1))) (lv' := [(3, .int (iz (i + 1))), (0, .ref nt), (1, .int (iz k)), (2, .int (iz lf))]) hX_ hB_ dX3_wrongAt_36 hl (k := 3) rfl (iz_add _ _) (by decide) rfl (fun ls hl => ?_)
            refine lv_goto (tgt := 4) hX_ hB_ dX3_wrongAt_39 (by decide) ?_
            exact ih_4 (i + 1) lf (by omega) (by omega) (by intro j q1 q2 q3; by_cases e1 : j < i; exact hno j q1 e1 q3; obtain rfl : j = i := (by omega); first | (have q4 := bz_f c_24; rw [q4] at q3; exact absurd q3 Bool.false_ne_true) | omega) (by omega) _ _ hP hD hS ls (lv_sub hl [1, 2, 3, 0] rfl)
          · skip
            refine lv_iload_n hX_ hB_ dX3_wrongAt_27 rfl (lv_at hl 2 rfl) ?_
            refine zk_if_ne (tgt := 33) hX_ hB_ (by omega) dX3_wrongAt_28 (by decide) (fun c_28 => ?_) (fun c_28 => ?_)
            · skip
              refine lv_iinc (v := (iz (lf - 1))) (lv' := [(2, .int (iz (lf - 1))), (0, .ref nt), (1, .int (iz k)), (3, .int (iz i))]) hX_ hB_ dX3_wrongAt_33 hl (k := 2) rfl ((iz_add _ _).trans (congrArg iz (by omega))) (by decide) rfl (fun ls hl => ?_)
              refine lv_iinc (v := (iz (i + 1))) (lv' := [(3, .int (iz (i + 1))), (2, .int (iz (lf - 1))), (0, .ref nt), (1, .int (iz k))]) hX_ hB_ dX3_wrongAt_36 hl (k := 3) rfl (iz_add _ _) (by decide) rfl (fun ls hl => ?_)
              refine lv_goto (tgt := 4) hX_ hB_ dX3_wrongAt_39 (by decide) ?_
              exact ih_4 (i + 1) (lf - 1) (by omega) (by omega) (by intro j q1 q2 q3; by_cases e1 : j < i; exact hno j q1 e1 q3; obtain rfl : j = i := (by omega); first | (have q4 := bz_f c_24; rw [q4] at q3; exact absurd q3 Bool.false_ne_true) | omega) (by omega) _ _ hP hD hS ls (lv_sub hl [2, 3, 1, 0] rfl)
            · skip
              refine lv_iload_n hX_ hB_ dX3_wrongAt_31 rfl (lv_at hl 3 rfl) ?_
              exact fin_i (wf := (fun h : Int => (wpl [(nt, .inr (1, [.int (iz size), .int (iz mcn), .int (iz few), .int (iz (wg : Int)), .int (iz slv), .ref mem, .ref fr, .ref to_, .ref da, .ref gr, .ref of_, .ref jo, .ref jsA])), (mem, .inl (G.2 4, 30, .inr (.inr (.inr (.inr (rv mb)))))), (fr, .inl (G.2 0, 12, .inl (av fF))), (to_, .inl (G.2 0, 12, .inl (av tT))), (da, .inl (G.2 0, 12, .inl (av dD))), (gr, .inl (G.2 5, 13, .inr (.inr (.inr (.inr (rv (fun k_ => some (ad (k_ + 0).toNat)))))))), (of_, .inl (G.2 5, 13, .inr (.inr (.inr (.inr (rv (fun k_ => some (ad (k_ + 13).toNat)))))))), (jo, .inl (G.2 5, 12, .inr (.inr (.inr (.inr (rv (fun k_ => some (ad (k_ + 26).toNat)))))))), (jsA, .inl (G.2 0, 12, .inl (av js)))] (rows 38 ad (ctM G M))))) i F rfl hP hD hK hS (by decide) (by decide) dX3_wrongAt_32 (by exact ⟨rfl, Or.inl ⟨hi.1, by omega, bz_t c_24, by omega⟩⟩)
  exact loop_4 _ 0 k (by omega) (by exact ⟨by have := cb_0 wg 0; omega, Or.inr (Or.inr rfl)⟩) (by omega) (Nat.lt_succ_self _) _ _ hP hD hS ls (lv_sub hl [2, 3, 1, 0] rfl)

theorem hw_X3_settledSize_d702f7 : (.fieldLink RX3 11 "StoneDates$Net" "members" "[LStoneDates$Stone;" : Cond) ∈ wsX3_settledSize := by decide +kernel
theorem hi_X3_settledSize_X3 : ∀ w ∈ u_ws RX3 TX3 13, w ∈ wsX3_settledSize := by decide +kernel
theorem hw_X3_settledSize_5b42a7 : (.fieldLink RX3 29 "StoneDates$Net" "group" "[[I" : Cond) ∈ wsX3_settledSize := by decide +kernel
theorem hw_X3_settledSize_0faae4 : (.fieldLink RX3 48 "StoneDates$Net" "size" "I" : Cond) ∈ wsX3_settledSize := by decide +kernel
set_option maxHeartbeats 4000000 in
set_option maxRecDepth 100000 in
theorem c_X3_settledSize (l : Launch) (G : GG) (nt : Nat) (mem : Nat) (fr : Nat) (to_ : Nat) (da : Nat) (gr : Nat) (of_ : Nat) (jo : Nat) (jsA : Nat) (ad : Nat → Nat) (mb : Int → Option Nat) (fF : Int → Int) (tT : Int → Int) (dD : Int → Int) (js : Int → Int) (M : Nat → Int → Int) (size : Int) (mcn : Int) (few : Int) (wrg : Int) (slv : Int) (sd : Int → Nat) (Ls : Int → List Int) (x : Int) (hs : 0 ≤ size ∧ size ≤ 12) (hx : 0 ≤ x ∧ x < 30) (hg : (mb x).isSome = true → DOk mb js M Ls (M (size + 0).toNat x) ∧ -9000000 < M (size + 13).toNat x ∧ M (size + 13).toNat x < 9000000) : Ci l yX3_settledSize wsX3_settledSize ({ frames := 1, cells := 0, slots := 0, locals := 22 }) G (NetE mb sd Ls) [.ref nt, .int (iz x)] (wpl [(nt, .inr (1, [.int (iz size), .int (iz mcn), .int (iz few), .int (iz wrg), .int (iz slv), .ref mem, .ref fr, .ref to_, .ref da, .ref gr, .ref of_, .ref jo, .ref jsA])), (mem, .inl (G.2 4, 30, .inr (.inr (.inr (.inr (rv mb)))))), (fr, .inl (G.2 0, 12, .inl (av fF))), (to_, .inl (G.2 0, 12, .inl (av tT))), (da, .inl (G.2 0, 12, .inl (av dD))), (gr, .inl (G.2 5, 13, .inr (.inr (.inr (.inr (rv (fun k_ => some (ad (k_ + 0).toNat)))))))), (of_, .inl (G.2 5, 13, .inr (.inr (.inr (.inr (rv (fun k_ => some (ad (k_ + 13).toNat)))))))), (jo, .inl (G.2 5, 12, .inr (.inr (.inr (.inr (rv (fun k_ => some (ad (k_ + 26).toNat)))))))), (jsA, .inl (G.2 0, 12, .inl (av js)))] (rows 38 ad (ctM G M))) 0 0 (fun _ : Unit => (wpl [(nt, .inr (1, [.int (iz size), .int (iz mcn), .int (iz few), .int (iz wrg), .int (iz slv), .ref mem, .ref fr, .ref to_, .ref da, .ref gr, .ref of_, .ref jo, .ref jsA])), (mem, .inl (G.2 4, 30, .inr (.inr (.inr (.inr (rv mb)))))), (fr, .inl (G.2 0, 12, .inl (av fF))), (to_, .inl (G.2 0, 12, .inl (av tT))), (da, .inl (G.2 0, 12, .inl (av dD))), (gr, .inl (G.2 5, 13, .inr (.inr (.inr (.inr (rv (fun k_ => some (ad (k_ + 0).toNat)))))))), (of_, .inl (G.2 5, 13, .inr (.inr (.inr (.inr (rv (fun k_ => some (ad (k_ + 13).toNat)))))))), (jo, .inl (G.2 5, 12, .inr (.inr (.inr (.inr (rv (fun k_ => some (ad (k_ + 26).toNat)))))))), (jsA, .inl (G.2 0, 12, .inl (av js)))] (rows 38 ad (ctM G M)))) (fun (r : Int32) (_ : Unit) => r = (iz (if (mb x).isSome then szX js Ls (M (size + 0).toNat x) else -1))) := by
  refine Ci_intro (cc := cX3_settledSize) (maxL := 2) (ret := (some .int)) (by decide) rfl (Nat.le_of_ble_eq_true rfl) ?_
  intro p e s m below meth c A F hA hP hD hK hE ls hl
  have hX_ := F.1
  have hB_ := F.2.1
  have hts := F.2.2.2.2.2.1
  have hown := F.2.2.2.2.1
  have hml := F.2.2.2.1
  have hS : va_S A s.heap s.heap [] := va_S.rf
  have hl : lv_has ls 2 [(0, .ref nt), (1, .int (iz x))] := hl
  refine lv_aload_n hX_ hB_ dX3_settledSize_0 rfl (lv_at hl 0 rfl) ?_
  refine va_get (D := G.1) (ci := 1) (v := .ref mem) (C := RX3) (T := TX3) (N := 13) hX_ hB_ hts hi_X3_settledSize_X3 hown hK.1 hP 0 rfl rfl 5 (by decide) (hts _ hw_X3_settledSize_d702f7) (fun _ h9 => h9) rfl dX3_settledSize_1 ?_
  refine lv_iload_n hX_ hB_ dX3_settledSize_4 rfl (lv_at hl 1 rfl) ?_
  refine zk_qald hX_ hB_ hK.1 hP 1 4 rfl rfl (by omega) (by decide) dX3_settledSize_5 ?_
  rcases hq_a : mb x with _ | x_a
  · skip
    refine zk_top (y := .null) rfl ?_
    refine lv_ifnonnullN hX_ hB_ dX3_settledSize_6 ?_
    refine zk_iconst hX_ hB_ dX3_settledSize_9 ?_
    refine lv_goto (tgt := 28) hX_ hB_ dX3_settledSize_10 (by decide) ?_
    exact fin_i (wf := (fun _ : Unit => (wpl [(nt, .inr (1, [.int (iz size), .int (iz mcn), .int (iz few), .int (iz wrg), .int (iz slv), .ref mem, .ref fr, .ref to_, .ref da, .ref gr, .ref of_, .ref jo, .ref jsA])), (mem, .inl (G.2 4, 30, .inr (.inr (.inr (.inr (rv mb)))))), (fr, .inl (G.2 0, 12, .inl (av fF))), (to_, .inl (G.2 0, 12, .inl (av tT))), (da, .inl (G.2 0, 12, .inl (av dD))), (gr, .inl (G.2 5, 13, .inr (.inr (.inr (.inr (rv (fun k_ => some (ad (k_ + 0).toNat)))))))), (of_, .inl (G.2 5, 13, .inr (.inr (.inr (.inr (rv (fun k_ => some (ad (k_ + 13).toNat)))))))), (jo, .inl (G.2 5, 12, .inr (.inr (.inr (.inr (rv (fun k_ => some (ad (k_ + 26).toNat)))))))), (jsA, .inl (G.2 0, 12, .inl (av js)))] (rows 38 ad (ctM G M))))) () F rfl hP hD hK hS (by decide) (by decide) dX3_settledSize_28 (by first | rfl | simp [hq_a])
  · skip
    refine zk_top (y := .ref x_a) rfl ?_
    refine lv_ifnonnull (tgt := 13) hX_ hB_ dX3_settledSize_6 (by decide) ?_
    refine lv_aload_n hX_ hB_ dX3_settledSize_13 rfl (lv_at hl 0 rfl) ?_
    refine lv_aload_n hX_ hB_ dX3_settledSize_14 rfl (lv_at hl 0 rfl) ?_
    refine va_get (D := G.1) (ci := 1) (v := .ref gr) (C := RX3) (T := TX3) (N := 13) hX_ hB_ hts hi_X3_settledSize_X3 hown hK.1 hP 0 rfl rfl 9 (by decide) (hts _ hw_X3_settledSize_5b42a7) (fun _ h9 => h9) rfl dX3_settledSize_15 ?_
    refine lv_aload_n hX_ hB_ dX3_settledSize_18 rfl (lv_at hl 0 rfl) ?_
    refine va_get (D := G.1) (ci := 1) (v := .int (iz size)) (C := RX3) (T := TX3) (N := 13) hX_ hB_ hts hi_X3_settledSize_X3 hown hK.1 hP 0 rfl rfl 0 (by decide) (hts _ hw_X3_settledSize_0faae4) (fun _ h9 => h9) rfl dX3_settledSize_19 ?_
    refine zk_rald hX_ hB_ hK.1 hP 5 rfl (by omega) (by decide) rfl dX3_settledSize_22 ?_
    refine lv_iload_n hX_ hB_ dX3_settledSize_23 rfl (lv_at hl 1 rfl) ?_
    refine zk_pald (M := M) hX_ hB_ hK.1 hP 9 (size + 0).toNat rfl (by omega) (ln_lo (by omega)) (by omega) (by decide) dX3_settledSize_24 ?_
    refine backA_i (run_V (As := [.int (iz (M (size + 0).toNat x))]) (rest := []) (wc := (wpl [(nt, .inr (1, [.int (iz size), .int (iz mcn), .int (iz few), .int (iz wrg), .int (iz slv), .ref mem, .ref fr, .ref to_, .ref da, .ref gr, .ref of_, .ref jo, .ref jsA])), (mem, .inl (G.2 4, 30, .inr (.inr (.inr (.inr (rv mb)))))), (fr, .inl (G.2 0, 12, .inl (av fF))), (to_, .inl (G.2 0, 12, .inl (av tT))), (da, .inl (G.2 0, 12, .inl (av dD))), (gr, .inl (G.2 5, 13, .inr (.inr (.inr (.inr (rv (fun k_ => some (ad (k_ + 0).toNat)))))))), (of_, .inl (G.2 5, 13, .inr (.inr (.inr (.inr (rv (fun k_ => some (ad (k_ + 13).toNat)))))))), (jo, .inl (G.2 5, 12, .inr (.inr (.inr (.inr (rv (fun k_ => some (ad (k_ + 26).toNat)))))))), (jsA, .inl (G.2 0, 12, .inl (av js)))] (rows 38 ad (ctM G M)))) F (c_X3_sizeOf l G nt mem fr to_ da gr of_ jo jsA ad mb fF tT dD js M size mcn few wrg slv sd Ls (M (size + 0).toNat x) (hg (by rw [hq_a]; rfl)).1.1 _) (netE_ext mb sd Ls) gX3_settledSize_X3_sizeOf rfl rfl rfl mdv_X3_sizeOf ⟨Nat.le_of_ble_eq_true rfl, Nat.le_of_ble_eq_true rfl⟩ (va_recv hK.1 hP (ci := 1) (q0 := 0) rfl rfl) (preA (netE_ext mb sd Ls) hK hP hD hS hA hE _) rfl hl.1 (Nat.le_of_ble_eq_true rfl) dX3_settledSize_25 ⟨by decide, by decide⟩) hD hS hA (fun r__ u__ H locs hw hP hD hS => ?_)
    subst hw
    have hP : va_P G.1 vwCl (wpl [(nt, .inr (1, [.int (iz size), .int (iz mcn), .int (iz few), .int (iz wrg), .int (iz slv), .ref mem, .ref fr, .ref to_, .ref da, .ref gr, .ref of_, .ref jo, .ref jsA])), (mem, .inl (G.2 4, 30, .inr (.inr (.inr (.inr (rv mb)))))), (fr, .inl (G.2 0, 12, .inl (av fF))), (to_, .inl (G.2 0, 12, .inl (av tT))), (da, .inl (G.2 0, 12, .inl (av dD))), (gr, .inl (G.2 5, 13, .inr (.inr (.inr (.inr (rv (fun k_ => some (ad (k_ + 0).toNat)))))))), (of_, .inl (G.2 5, 13, .inr (.inr (.inr (.inr (rv (fun k_ => some (ad (k_ + 13).toNat)))))))), (jo, .inl (G.2 5, 12, .inr (.inr (.inr (.inr (rv (fun k_ => some (ad (k_ + 26).toNat)))))))), (jsA, .inl (G.2 0, 12, .inl (av js)))] (rows 38 ad (ctM G M))) _ := hP
    have hD : va_D A (wpl [(nt, .inr (1, [.int (iz size), .int (iz mcn), .int (iz few), .int (iz wrg), .int (iz slv), .ref mem, .ref fr, .ref to_, .ref da, .ref gr, .ref of_, .ref jo, .ref jsA])), (mem, .inl (G.2 4, 30, .inr (.inr (.inr (.inr (rv mb)))))), (fr, .inl (G.2 0, 12, .inl (av fF))), (to_, .inl (G.2 0, 12, .inl (av tT))), (da, .inl (G.2 0, 12, .inl (av dD))), (gr, .inl (G.2 5, 13, .inr (.inr (.inr (.inr (rv (fun k_ => some (ad (k_ + 0).toNat)))))))), (of_, .inl (G.2 5, 13, .inr (.inr (.inr (.inr (rv (fun k_ => some (ad (k_ + 13).toNat)))))))), (jo, .inl (G.2 5, 12, .inr (.inr (.inr (.inr (rv (fun k_ => some (ad (k_ + 26).toNat)))))))), (jsA, .inl (G.2 0, 12, .inl (av js)))] (rows 38 ad (ctM G M))) := hD
    exact fin_i (wf := (fun _ : Unit => (wpl [(nt, .inr (1, [.int (iz size), .int (iz mcn), .int (iz few), .int (iz wrg), .int (iz slv), .ref mem, .ref fr, .ref to_, .ref da, .ref gr, .ref of_, .ref jo, .ref jsA])), (mem, .inl (G.2 4, 30, .inr (.inr (.inr (.inr (rv mb)))))), (fr, .inl (G.2 0, 12, .inl (av fF))), (to_, .inl (G.2 0, 12, .inl (av tT))), (da, .inl (G.2 0, 12, .inl (av dD))), (gr, .inl (G.2 5, 13, .inr (.inr (.inr (.inr (rv (fun k_ => some (ad (k_ + 0).toNat)))))))), (of_, .inl (G.2 5, 13, .inr (.inr (.inr (.inr (rv (fun k_ => some (ad (k_ + 13).toNat)))))))), (jo, .inl (G.2 5, 12, .inr (.inr (.inr (.inr (rv (fun k_ => some (ad (k_ + 26).toNat)))))))), (jsA, .inl (G.2 0, 12, .inl (av js)))] (rows 38 ad (ctM G M))))) () F rfl hP hD hK hS (by decide) (by decide) dX3_settledSize_28 (by first | rfl | simp [hq_a])

theorem mdv_X3_settledSize : yX3_settledSize.cls = RX3 ∧ yX3_settledSize.cls ≠ "java/lang/invoke/MethodHandle" ∧ yX3_settledSize.cls ≠ "java/lang/invoke/VarHandle" ∧ (parseMethodDescriptor yX3_settledSize.desc).map (fun d => d.parameters.length) = some 1 := by decide +kernel
theorem hw_X3_settledAt_5b42a7 : (.fieldLink RX3 29 "StoneDates$Net" "group" "[[I" : Cond) ∈ wsX3_settledAt := by decide +kernel
theorem hi_X3_settledAt_X3 : ∀ w ∈ u_ws RX3 TX3 13, w ∈ wsX3_settledAt := by decide +kernel
theorem hw_X3_settledAt_0faae4 : (.fieldLink RX3 48 "StoneDates$Net" "size" "I" : Cond) ∈ wsX3_settledAt := by decide +kernel
theorem hw_X3_settledAt_1dff87 : (.fieldLink RX3 32 "StoneDates$Net" "offset" "[[I" : Cond) ∈ wsX3_settledAt := by decide +kernel
set_option maxHeartbeats 4000000 in
set_option maxRecDepth 100000 in
theorem c_X3_settledAt (l : Launch) (G : GG) (nt : Nat) (mem : Nat) (fr : Nat) (to_ : Nat) (da : Nat) (gr : Nat) (of_ : Nat) (jo : Nat) (jsA : Nat) (ad : Nat → Nat) (mb : Int → Option Nat) (fF : Int → Int) (tT : Int → Int) (dD : Int → Int) (js : Int → Int) (M : Nat → Int → Int) (size : Int) (mcn : Int) (few : Int) (wrg : Int) (slv : Int) (sd : Int → Nat) (Ls : Int → List Int) (x : Int) (k : Int) (hs : 0 ≤ size ∧ size ≤ 12) (hx : 0 ≤ x ∧ x < 30) (hg : (mb x).isSome = true → DOk mb js M Ls (M (size + 0).toNat x) ∧ -9000000 < M (size + 13).toNat x ∧ M (size + 13).toNat x < 9000000) (hk : R31 k) : Ci l yX3_settledAt wsX3_settledAt ({ frames := 2, cells := 0, slots := 0, locals := 43 }) G (NetE mb sd Ls) [.ref nt, .int (iz x), .int (iz k)] (wpl [(nt, .inr (1, [.int (iz size), .int (iz mcn), .int (iz few), .int (iz wrg), .int (iz slv), .ref mem, .ref fr, .ref to_, .ref da, .ref gr, .ref of_, .ref jo, .ref jsA])), (mem, .inl (G.2 4, 30, .inr (.inr (.inr (.inr (rv mb)))))), (fr, .inl (G.2 0, 12, .inl (av fF))), (to_, .inl (G.2 0, 12, .inl (av tT))), (da, .inl (G.2 0, 12, .inl (av dD))), (gr, .inl (G.2 5, 13, .inr (.inr (.inr (.inr (rv (fun k_ => some (ad (k_ + 0).toNat)))))))), (of_, .inl (G.2 5, 13, .inr (.inr (.inr (.inr (rv (fun k_ => some (ad (k_ + 13).toNat)))))))), (jo, .inl (G.2 5, 12, .inr (.inr (.inr (.inr (rv (fun k_ => some (ad (k_ + 26).toNat)))))))), (jsA, .inl (G.2 0, 12, .inl (av js)))] (rows 38 ad (ctM G M))) 0 0 (fun _ : Unit => (wpl [(nt, .inr (1, [.int (iz size), .int (iz mcn), .int (iz few), .int (iz wrg), .int (iz slv), .ref mem, .ref fr, .ref to_, .ref da, .ref gr, .ref of_, .ref jo, .ref jsA])), (mem, .inl (G.2 4, 30, .inr (.inr (.inr (.inr (rv mb)))))), (fr, .inl (G.2 0, 12, .inl (av fF))), (to_, .inl (G.2 0, 12, .inl (av tT))), (da, .inl (G.2 0, 12, .inl (av dD))), (gr, .inl (G.2 5, 13, .inr (.inr (.inr (.inr (rv (fun k_ => some (ad (k_ + 0).toNat)))))))), (of_, .inl (G.2 5, 13, .inr (.inr (.inr (.inr (rv (fun k_ => some (ad (k_ + 13).toNat)))))))), (jo, .inl (G.2 5, 12, .inr (.inr (.inr (.inr (rv (fun k_ => some (ad (k_ + 26).toNat)))))))), (jsA, .inl (G.2 0, 12, .inl (av js)))] (rows 38 ad (ctM G M)))) (fun (r : Int32) (_ : Unit) => r = (iz (if 0 ≤ k ∧ k < (if (mb x).isSome then szX js Ls (M (size + 0).toNat x) else -1) then dlX M Ls (M (size + 0).toNat x) k + M (size + 13).toNat x else -1))) := by
  refine Ci_intro (cc := cX3_settledAt) (maxL := 3) (ret := (some .int)) (by decide) rfl (Nat.le_of_ble_eq_true rfl) ?_
  intro p e s m below meth c A F hA hP hD hK hE ls hl
  have hX_ := F.1
  have hB_ := F.2.1
  have hts := F.2.2.2.2.2.1
  have hown := F.2.2.2.2.1
  have hml := F.2.2.2.1
  have hS : va_S A s.heap s.heap [] := va_S.rf
  have hl : lv_has ls 3 [(0, .ref nt), (1, .int (iz x)), (2, .int (iz k))] := hl
  refine lv_iload_n hX_ hB_ dX3_settledAt_0 rfl (lv_at hl 2 rfl) ?_
  refine zk_if_lt (tgt := 13) hX_ hB_ (by omega) dX3_settledAt_1 (by decide) (fun c_1 => ?_) (fun c_1 => ?_)
  · skip
    refine zk_iconst hX_ hB_ dX3_settledAt_13 ?_
    exact fin_i (wf := (fun _ : Unit => (wpl [(nt, .inr (1, [.int (iz size), .int (iz mcn), .int (iz few), .int (iz wrg), .int (iz slv), .ref mem, .ref fr, .ref to_, .ref da, .ref gr, .ref of_, .ref jo, .ref jsA])), (mem, .inl (G.2 4, 30, .inr (.inr (.inr (.inr (rv mb)))))), (fr, .inl (G.2 0, 12, .inl (av fF))), (to_, .inl (G.2 0, 12, .inl (av tT))), (da, .inl (G.2 0, 12, .inl (av dD))), (gr, .inl (G.2 5, 13, .inr (.inr (.inr (.inr (rv (fun k_ => some (ad (k_ + 0).toNat)))))))), (of_, .inl (G.2 5, 13, .inr (.inr (.inr (.inr (rv (fun k_ => some (ad (k_ + 13).toNat)))))))), (jo, .inl (G.2 5, 12, .inr (.inr (.inr (.inr (rv (fun k_ => some (ad (k_ + 26).toNat)))))))), (jsA, .inl (G.2 0, 12, .inl (av js)))] (rows 38 ad (ctM G M))))) () F rfl hP hD hK hS (by decide) (by decide) dX3_settledAt_14 (by rw [if_neg (by omega)])
  · skip
    refine lv_iload_n hX_ hB_ dX3_settledAt_4 rfl (lv_at hl 2 rfl) ?_
    refine lv_aload_n hX_ hB_ dX3_settledAt_5 rfl (lv_at hl 0 rfl) ?_
    refine lv_iload_n hX_ hB_ dX3_settledAt_6 rfl (lv_at hl 1 rfl) ?_
    refine backA_i (run_V (As := [.int (iz x)]) (rest := [.int (iz k)]) (wc := (wpl [(nt, .inr (1, [.int (iz size), .int (iz mcn), .int (iz few), .int (iz wrg), .int (iz slv), .ref mem, .ref fr, .ref to_, .ref da, .ref gr, .ref of_, .ref jo, .ref jsA])), (mem, .inl (G.2 4, 30, .inr (.inr (.inr (.inr (rv mb)))))), (fr, .inl (G.2 0, 12, .inl (av fF))), (to_, .inl (G.2 0, 12, .inl (av tT))), (da, .inl (G.2 0, 12, .inl (av dD))), (gr, .inl (G.2 5, 13, .inr (.inr (.inr (.inr (rv (fun k_ => some (ad (k_ + 0).toNat)))))))), (of_, .inl (G.2 5, 13, .inr (.inr (.inr (.inr (rv (fun k_ => some (ad (k_ + 13).toNat)))))))), (jo, .inl (G.2 5, 12, .inr (.inr (.inr (.inr (rv (fun k_ => some (ad (k_ + 26).toNat)))))))), (jsA, .inl (G.2 0, 12, .inl (av js)))] (rows 38 ad (ctM G M)))) F (c_X3_settledSize l G nt mem fr to_ da gr of_ jo jsA ad mb fF tT dD js M size mcn few wrg slv sd Ls x hs hx hg _) (netE_ext mb sd Ls) gX3_settledAt_X3_settledSize rfl rfl rfl mdv_X3_settledSize ⟨Nat.le_of_ble_eq_true rfl, Nat.le_of_ble_eq_true rfl⟩ (va_recv hK.1 hP (ci := 1) (q0 := 0) rfl rfl) (preA (netE_ext mb sd Ls) hK hP hD hS hA hE _) rfl hl.1 (Nat.le_of_ble_eq_true rfl) dX3_settledAt_7 ⟨by decide, by decide⟩) hD hS hA (fun r__ u__ H locs hw hP hD hS => ?_)
    subst hw
    have hP : va_P G.1 vwCl (wpl [(nt, .inr (1, [.int (iz size), .int (iz mcn), .int (iz few), .int (iz wrg), .int (iz slv), .ref mem, .ref fr, .ref to_, .ref da, .ref gr, .ref of_, .ref jo, .ref jsA])), (mem, .inl (G.2 4, 30, .inr (.inr (.inr (.inr (rv mb)))))), (fr, .inl (G.2 0, 12, .inl (av fF))), (to_, .inl (G.2 0, 12, .inl (av tT))), (da, .inl (G.2 0, 12, .inl (av dD))), (gr, .inl (G.2 5, 13, .inr (.inr (.inr (.inr (rv (fun k_ => some (ad (k_ + 0).toNat)))))))), (of_, .inl (G.2 5, 13, .inr (.inr (.inr (.inr (rv (fun k_ => some (ad (k_ + 13).toNat)))))))), (jo, .inl (G.2 5, 12, .inr (.inr (.inr (.inr (rv (fun k_ => some (ad (k_ + 26).toNat)))))))), (jsA, .inl (G.2 0, 12, .inl (av js)))] (rows 38 ad (ctM G M))) _ := hP
    have hD : va_D A (wpl [(nt, .inr (1, [.int (iz size), .int (iz mcn), .int (iz few), .int (iz wrg), .int (iz slv), .ref mem, .ref fr, .ref to_, .ref da, .ref gr, .ref of_, .ref jo, .ref jsA])), (mem, .inl (G.2 4, 30, .inr (.inr (.inr (.inr (rv mb)))))), (fr, .inl (G.2 0, 12, .inl (av fF))), (to_, .inl (G.2 0, 12, .inl (av tT))), (da, .inl (G.2 0, 12, .inl (av dD))), (gr, .inl (G.2 5, 13, .inr (.inr (.inr (.inr (rv (fun k_ => some (ad (k_ + 0).toNat)))))))), (of_, .inl (G.2 5, 13, .inr (.inr (.inr (.inr (rv (fun k_ => some (ad (k_ + 13).toNat)))))))), (jo, .inl (G.2 5, 12, .inr (.inr (.inr (.inr (rv (fun k_ => some (ad (k_ + 26).toNat)))))))), (jsA, .inl (G.2 0, 12, .inl (av js)))] (rows 38 ad (ctM G M))) := hD
    have hsr : -1 ≤ (if (mb x).isSome then szX js Ls (M (size + 0).toNat x) else -1) ∧ (if (mb x).isSome then szX js Ls (M (size + 0).toNat x) else -1) ≤ 300 := by split; (next q => have := (hg q).1.2.1; omega); omega
    refine zk_icmp_lt (tgt := 15) hX_ hB_ (by omega) (by omega) dX3_settledAt_10 (by decide) (fun c_10 => ?_) (fun c_10 => ?_)
    · skip
      have hm9 : (mb x).isSome = true := by by_cases q : (mb x).isSome = true; exact q; (rw [if_neg q] at c_10; omega)
      have hsz : k < szX js Ls (M (size + 0).toNat x) := by rw [if_pos hm9] at c_10; exact c_10
      have hgg := hg hm9
      have hgd := hgg.1.2.2.2 k (by omega) hsz
      refine lv_aload_n hX_ hB_ dX3_settledAt_15 rfl (lv_at hl 0 rfl) ?_
      refine lv_aload_n hX_ hB_ dX3_settledAt_16 rfl (lv_at hl 0 rfl) ?_
      refine va_get (D := G.1) (ci := 1) (v := .ref gr) (C := RX3) (T := TX3) (N := 13) hX_ hB_ hts hi_X3_settledAt_X3 hown hK.1 hP 0 rfl rfl 9 (by decide) (hts _ hw_X3_settledAt_5b42a7) (fun _ h9 => h9) rfl dX3_settledAt_17 ?_
      refine lv_aload_n hX_ hB_ dX3_settledAt_20 rfl (lv_at hl 0 rfl) ?_
      refine va_get (D := G.1) (ci := 1) (v := .int (iz size)) (C := RX3) (T := TX3) (N := 13) hX_ hB_ hts hi_X3_settledAt_X3 hown hK.1 hP 0 rfl rfl 0 (by decide) (hts _ hw_X3_settledAt_0faae4) (fun _ h9 => h9) rfl dX3_settledAt_21 ?_
      refine zk_rald hX_ hB_ hK.1 hP 5 rfl (by omega) (by decide) rfl dX3_settledAt_24 ?_
      refine lv_iload_n hX_ hB_ dX3_settledAt_25 rfl (lv_at hl 1 rfl) ?_
      refine zk_pald (M := M) hX_ hB_ hK.1 hP 9 (size + 0).toNat rfl (by omega) (ln_lo (by omega)) (by omega) (by decide) dX3_settledAt_26 ?_
      refine backA_q (run_V (As := [.int (iz (M (size + 0).toNat x))]) (rest := []) (wc := (wpl [(nt, .inr (1, [.int (iz size), .int (iz mcn), .int (iz few), .int (iz wrg), .int (iz slv), .ref mem, .ref fr, .ref to_, .ref da, .ref gr, .ref of_, .ref jo, .ref jsA])), (mem, .inl (G.2 4, 30, .inr (.inr (.inr (.inr (rv mb)))))), (fr, .inl (G.2 0, 12, .inl (av fF))), (to_, .inl (G.2 0, 12, .inl (av tT))), (da, .inl (G.2 0, 12, .inl (av dD))), (gr, .inl (G.2 5, 13, .inr (.inr (.inr (.inr (rv (fun k_ => some (ad (k_ + 0).toNat)))))))), (of_, .inl (G.2 5, 13, .inr (.inr (.inr (.inr (rv (fun k_ => some (ad (k_ + 13).toNat)))))))), (jo, .inl (G.2 5, 12, .inr (.inr (.inr (.inr (rv (fun k_ => some (ad (k_ + 26).toNat)))))))), (jsA, .inl (G.2 0, 12, .inl (av js)))] (rows 38 ad (ctM G M)))) F (c_X3_daysOf l G nt mem fr to_ da gr of_ jo jsA ad mb fF tT dD js M size mcn few wrg slv sd Ls (M (size + 0).toNat x) (hg hm9).1.1 _) (netE_ext mb sd Ls) gX3_settledAt_X3_daysOf rfl rfl rfl mdv_X3_daysOf ⟨Nat.le_of_ble_eq_true rfl, Nat.le_of_ble_eq_true rfl⟩ (va_recv hK.1 hP (ci := 1) (q0 := 0) rfl rfl) (preA (netE_ext mb sd Ls) hK hP hD hS hA hE _) rfl hl.1 (Nat.le_of_ble_eq_true rfl) dX3_settledAt_27 ⟨by decide, by decide⟩) hD hS hA (fun r__ u__ H locs hw hP hD hS => ?_)
      subst hw
      have hP : va_P G.1 vwCl (wpl [(nt, .inr (1, [.int (iz size), .int (iz mcn), .int (iz few), .int (iz wrg), .int (iz slv), .ref mem, .ref fr, .ref to_, .ref da, .ref gr, .ref of_, .ref jo, .ref jsA])), (mem, .inl (G.2 4, 30, .inr (.inr (.inr (.inr (rv mb)))))), (fr, .inl (G.2 0, 12, .inl (av fF))), (to_, .inl (G.2 0, 12, .inl (av tT))), (da, .inl (G.2 0, 12, .inl (av dD))), (gr, .inl (G.2 5, 13, .inr (.inr (.inr (.inr (rv (fun k_ => some (ad (k_ + 0).toNat)))))))), (of_, .inl (G.2 5, 13, .inr (.inr (.inr (.inr (rv (fun k_ => some (ad (k_ + 13).toNat)))))))), (jo, .inl (G.2 5, 12, .inr (.inr (.inr (.inr (rv (fun k_ => some (ad (k_ + 26).toNat)))))))), (jsA, .inl (G.2 0, 12, .inl (av js)))] (rows 38 ad (ctM G M))) _ := hP
      have hD : va_D A (wpl [(nt, .inr (1, [.int (iz size), .int (iz mcn), .int (iz few), .int (iz wrg), .int (iz slv), .ref mem, .ref fr, .ref to_, .ref da, .ref gr, .ref of_, .ref jo, .ref jsA])), (mem, .inl (G.2 4, 30, .inr (.inr (.inr (.inr (rv mb)))))), (fr, .inl (G.2 0, 12, .inl (av fF))), (to_, .inl (G.2 0, 12, .inl (av tT))), (da, .inl (G.2 0, 12, .inl (av dD))), (gr, .inl (G.2 5, 13, .inr (.inr (.inr (.inr (rv (fun k_ => some (ad (k_ + 0).toNat)))))))), (of_, .inl (G.2 5, 13, .inr (.inr (.inr (.inr (rv (fun k_ => some (ad (k_ + 13).toNat)))))))), (jo, .inl (G.2 5, 12, .inr (.inr (.inr (.inr (rv (fun k_ => some (ad (k_ + 26).toNat)))))))), (jsA, .inl (G.2 0, 12, .inl (av js)))] (rows 38 ad (ctM G M))) := hD
      refine zk_top (y := .ref (daX ad sd (M (size + 0).toNat x))) rfl ?_
      refine lv_iload_n hX_ hB_ dX3_settledAt_30 rfl (lv_at hl 2 rfl) ?_
      refine zk_dald hX_ hB_ hK.1 hP hE hS 9 (M (size + 0).toNat x) rfl (hg hm9).1.1 (hz_of ⟨by omega, hsz⟩ (hg hm9).1.2.1.2) dX3_settledAt_31 ?_
      refine lv_aload_n hX_ hB_ dX3_settledAt_32 rfl (lv_at hl 0 rfl) ?_
      refine va_get (D := G.1) (ci := 1) (v := .ref of_) (C := RX3) (T := TX3) (N := 13) hX_ hB_ hts hi_X3_settledAt_X3 hown hK.1 hP 0 rfl rfl 10 (by decide) (hts _ hw_X3_settledAt_1dff87) (fun _ h9 => h9) rfl dX3_settledAt_33 ?_
      refine lv_aload_n hX_ hB_ dX3_settledAt_36 rfl (lv_at hl 0 rfl) ?_
      refine va_get (D := G.1) (ci := 1) (v := .int (iz size)) (C := RX3) (T := TX3) (N := 13) hX_ hB_ hts hi_X3_settledAt_X3 hown hK.1 hP 0 rfl rfl 0 (by decide) (hts _ hw_X3_settledAt_0faae4) (fun _ h9 => h9) rfl dX3_settledAt_37 ?_
      refine zk_rald hX_ hB_ hK.1 hP 6 rfl (by omega) (by decide) rfl dX3_settledAt_40 ?_
      refine lv_iload_n hX_ hB_ dX3_settledAt_41 rfl (lv_at hl 1 rfl) ?_
      refine zk_pald (M := M) hX_ hB_ hK.1 hP 9 (size + 13).toNat rfl (by omega) (ln_lo (by omega)) (by omega) (by decide) dX3_settledAt_42 ?_
      refine zk_iadd hX_ hB_ dX3_settledAt_43 ?_
      exact fin_i (wf := (fun _ : Unit => (wpl [(nt, .inr (1, [.int (iz size), .int (iz mcn), .int (iz few), .int (iz wrg), .int (iz slv), .ref mem, .ref fr, .ref to_, .ref da, .ref gr, .ref of_, .ref jo, .ref jsA])), (mem, .inl (G.2 4, 30, .inr (.inr (.inr (.inr (rv mb)))))), (fr, .inl (G.2 0, 12, .inl (av fF))), (to_, .inl (G.2 0, 12, .inl (av tT))), (da, .inl (G.2 0, 12, .inl (av dD))), (gr, .inl (G.2 5, 13, .inr (.inr (.inr (.inr (rv (fun k_ => some (ad (k_ + 0).toNat)))))))), (of_, .inl (G.2 5, 13, .inr (.inr (.inr (.inr (rv (fun k_ => some (ad (k_ + 13).toNat)))))))), (jo, .inl (G.2 5, 12, .inr (.inr (.inr (.inr (rv (fun k_ => some (ad (k_ + 26).toNat)))))))), (jsA, .inl (G.2 0, 12, .inl (av js)))] (rows 38 ad (ctM G M))))) () F rfl hP hD hK hS (by decide) (by decide) dX3_settledAt_44 (by rw [if_pos ⟨by omega, c_10⟩])
    · skip
      refine zk_iconst hX_ hB_ dX3_settledAt_13 ?_
      exact fin_i (wf := (fun _ : Unit => (wpl [(nt, .inr (1, [.int (iz size), .int (iz mcn), .int (iz few), .int (iz wrg), .int (iz slv), .ref mem, .ref fr, .ref to_, .ref da, .ref gr, .ref of_, .ref jo, .ref jsA])), (mem, .inl (G.2 4, 30, .inr (.inr (.inr (.inr (rv mb)))))), (fr, .inl (G.2 0, 12, .inl (av fF))), (to_, .inl (G.2 0, 12, .inl (av tT))), (da, .inl (G.2 0, 12, .inl (av dD))), (gr, .inl (G.2 5, 13, .inr (.inr (.inr (.inr (rv (fun k_ => some (ad (k_ + 0).toNat)))))))), (of_, .inl (G.2 5, 13, .inr (.inr (.inr (.inr (rv (fun k_ => some (ad (k_ + 13).toNat)))))))), (jo, .inl (G.2 5, 12, .inr (.inr (.inr (.inr (rv (fun k_ => some (ad (k_ + 26).toNat)))))))), (jsA, .inl (G.2 0, 12, .inl (av js)))] (rows 38 ad (ctM G M))))) () F rfl hP hD hK hS (by decide) (by decide) dX3_settledAt_14 (by rw [if_neg (by omega)])
