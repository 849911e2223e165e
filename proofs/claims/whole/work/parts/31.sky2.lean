def mem (g : Int → Int) (n z : Int) : Prop := ∃ i : Int, 0 ≤ i ∧ i < n ∧ g i = z
def srt (g : Int → Int) (n : Int) : Prop := ∀ i j : Int, 0 ≤ i → i < j → j < n → g i < g j
theorem ins_srt {g : Int → Int} {n q z : Int} (hs : srt g n) (hq : 0 ≤ q ∧ q ≤ n) (h1 : ∀ j : Int, 0 ≤ j → j < q → g j < z) (h2 : ∀ j : Int, q ≤ j → j < n → z < g j) : srt (us (cpz g g q (q + 1) (n - q)) q z) (n + 1) ∧ ∀ y : Int, mem (us (cpz g g q (q + 1) (n - q)) q z) (n + 1) y ↔ (y = z ∨ mem g n y) := by
  have ev : ∀ k : Int, 0 ≤ k → k < n + 1 → us (cpz g g q (q + 1) (n - q)) q z k = if k = q then z else if k < q then g k else g (k - 1) := by
    intro k k0 k1
    unfold us cpz
    by_cases e : k = q
    · rw [if_pos e, if_pos e]
    · rw [if_neg e, if_neg e]
      by_cases e2 : k < q
      · rw [if_neg (by omega), if_pos e2]
      · rw [if_pos (by omega), if_neg e2]
        congr 1
        omega
  refine ⟨fun i j i0 ij jn => ?_, fun y => ⟨fun h => ?_, fun h => ?_⟩⟩
  · rw [ev i i0 (by omega), ev j (by omega) jn]
    by_cases a1 : i = q
    · rw [if_pos a1, if_neg (by omega), if_neg (by omega)]
      exact h2 (j - 1) (by omega) (by omega)
    · rw [if_neg a1]
      by_cases a2 : i < q
      · rw [if_pos a2]
        by_cases b1 : j = q
        · rw [if_pos b1]
          exact h1 i i0 a2
        · rw [if_neg b1]
          by_cases b2 : j < q
          · rw [if_pos b2]
            exact hs i j i0 ij (by omega)
          · rw [if_neg b2]
            have := h1 i i0 a2
            have := h2 (j - 1) (by omega) (by omega)
            omega
      · rw [if_neg a2, if_neg (by omega), if_neg (by omega)]
        exact hs (i - 1) (j - 1) (by omega) (by omega) (by omega)
  · obtain ⟨i, i0, i1, rfl⟩ := h
    rw [ev i i0 i1]
    by_cases a1 : i = q
    · rw [if_pos a1]
      exact Or.inl rfl
    · rw [if_neg a1]
      by_cases a2 : i < q
      · rw [if_pos a2]
        exact Or.inr ⟨i, i0, by omega, rfl⟩
      · rw [if_neg a2]
        exact Or.inr ⟨i - 1, by omega, by omega, rfl⟩
  · rcases h with h | ⟨i, i0, i1, h⟩
    · exact ⟨q, hq.1, by omega, by rw [ev q hq.1 (by omega), if_pos rfl, h]⟩
    · by_cases a2 : i < q
      · exact ⟨i, i0, by omega, by rw [ev i i0 (by omega), if_neg (by omega), if_pos a2, h]⟩
      · exact ⟨i + 1, by omega, by omega, by rw [ev (i + 1) (by omega) (by omega), if_neg (by omega), if_neg (by omega), show i + 1 - 1 = i from by omega, h]⟩
def tF (g : Int → Int) (nr i : Int) : Int := if 0 < i then imax (g i - nr) ((g (i - 1) + g i) / 2 + 1) else g i - nr
def tL (g : Int → Int) (n nr i : Int) : Int := if i + 1 < n then imin (g i + nr) ((g i + g (i + 1)) / 2) else g i + nr
def nl (nm : Int → Bool) (dO : Int → Int) : Nat → List Int
  | 0 => []
  | n + 1 => nl nm dO n ++ (if nm n then [dO n] else [])
theorem nl_le {nm : Int → Bool} {dO : Int → Int} : ∀ n : Nat, (nl nm dO n).length ≤ n
  | 0 => Nat.le_refl _
  | n + 1 => by
    have h := nl_le (nm := nm) (dO := dO) n
    unfold nl
    rw [List.length_append]
    split <;> simp <;> omega
theorem nl_z {nm : Int → Bool} {dO : Int → Int} {i : Int} (h : 0 ≤ i) : nl nm dO (i + 1).toNat = nl nm dO i.toNat ++ (if nm i then [dO i] else []) := by
  rw [show (i + 1).toNat = i.toNat + 1 from by omega]
  show nl nm dO i.toNat ++ (if nm (i.toNat : Int) then [dO (i.toNat : Int)] else []) = _
  rw [Int.toNat_of_nonneg h]

theorem hw_X5_gatherDates_ea45f9 : (.fieldLink RX5 15 "StoneDates$Sky" "isNaming" "[Z" : Cond) ∈ wsX5_gatherDates := by decide +kernel
theorem hi_X5_gatherDates_X5 : ∀ w ∈ u_ws RX5 TX5 15, w ∈ wsX5_gatherDates := by decide +kernel
theorem hw_X5_gatherDates_069bc0 : (.fieldLink RX5 25 "StoneDates$Sky" "dates" "[I" : Cond) ∈ wsX5_gatherDates := by decide +kernel
theorem hw_X5_gatherDates_336b52 : (.fieldLink RX5 19 "StoneDates$Sky" "dayOf" "[I" : Cond) ∈ wsX5_gatherDates := by decide +kernel
theorem hw_X5_gatherDates_a6b57e : (.fieldLink RX5 28 "StoneDates$Sky" "next" "[I" : Cond) ∈ wsX5_gatherDates := by decide +kernel
set_option maxHeartbeats 4000000 in
set_option maxRecDepth 100000 in
theorem c_X5_gatherDates (l : Launch) (G : GG) (h : Nat) (eA : Nat) (nA : Nat) (oA : Nat) (tA : Nat) (aA : Nat) (xA : Nat) (size : Int) (naming : Int) (bs : Int) (ba : Int) (sn : Int) (ag : Int) (sl : Int) (ht : Int) (bm : Int) (ec : Int → Int) (nm : Int → Bool) (dO : Int → Int) (t : Int → Int) (d : Int → Int) (x : Int → Int) : Ci l yX5_gatherDates wsX5_gatherDates ({ frames := 0, cells := 0, slots := 0, locals := 0 }) G E0 [.ref h] [(h, .inr (3, [.int (iz size), .int (iz naming), .int (iz bs), .int (iz ba), .ref eA, .ref nA, .ref oA, .ref tA, .ref aA, .ref xA, .int (iz sn), .int (iz ag), .int (iz sl), .long (lz ht), .long (lz bm)])), (eA, .inl (G.2 0, 40, .inl (av ec))), (nA, .inl (G.2 3, 30, .inl (bv nm))), (oA, .inl (G.2 0, 30, .inl (av dO))), (tA, .inl (G.2 0, 120, .inl (av t))), (aA, .inl (G.2 0, 30, .inl (av d))), (xA, .inl (G.2 0, 30, .inl (av x)))] 0 0 (fun u : (Int → Int) × (Int → Int) => match u with | (d2, x2) => [(h, .inr (3, [.int (iz size), .int (iz naming), .int (iz bs), .int (iz ba), .ref eA, .ref nA, .ref oA, .ref tA, .ref aA, .ref xA, .int (iz sn), .int (iz ag), .int (iz sl), .long (lz ht), .long (lz bm)])), (eA, .inl (G.2 0, 40, .inl (av ec))), (nA, .inl (G.2 3, 30, .inl (bv nm))), (oA, .inl (G.2 0, 30, .inl (av dO))), (tA, .inl (G.2 0, 120, .inl (av t))), (aA, .inl (G.2 0, 30, .inl (av d2))), (xA, .inl (G.2 0, 30, .inl (av x2)))]) (fun (r : Int32) (u : (Int → Int) × (Int → Int)) => match u with | (d2, x2) => r = iz ((nl nm dO 30).length : Int) ∧ (∀ k : Nat, k < (nl nm dO 30).length → d2 k = (nl nm dO 30).getD k 0) ∧ ∀ k : Nat, k < (nl nm dO 30).length → x2 k = 0) := by
  refine Ci_intro (cc := cX5_gatherDates) (maxL := 3) (ret := (some .int)) (by decide) rfl (Nat.le_of_ble_eq_true rfl) ?_
  intro p e s m below meth c A F hA hP hD hK hE ls hl
  have hX_ := F.1
  have hB_ := F.2.1
  have hts := F.2.2.2.2.2.1
  have hown := F.2.2.2.2.1
  have hml := F.2.2.2.1
  have hS : va_S A s.heap s.heap [] := va_S.rf
  have hl : lv_has ls 3 [(0, .ref h)] := hl
  refine zk_iconst hX_ hB_ dX5_gatherDates_0 ?_
  refine lv_istore_n (lv' := [(1, .int (iz 0)), (0, .ref h)]) hX_ hB_ dX5_gatherDates_1 rfl hl (by decide) rfl (fun ls hl => ?_)
  refine zk_iconst hX_ hB_ dX5_gatherDates_2 ?_
  refine lv_istore_n (lv' := [(2, .int (iz 0)), (1, .int (iz 0)), (0, .ref h)]) hX_ hB_ dX5_gatherDates_3 rfl hl (by decide) rfl (fun ls hl => ?_)
  have loop_4 : ∀ (n_4 : Nat), ∀ (i : Int) (q : Int) (dd : Int → Int) (xx : Int → Int), (0 ≤ i ∧ i ≤ 30) → (q = ((nl nm dO i.toNat).length : Int)) → (∀ k : Nat, k < (nl nm dO i.toNat).length → dd k = (nl nm dO i.toNat).getD k 0) → (∀ k : Nat, k < (nl nm dO i.toNat).length → xx k = 0) → ((30 - i).toNat < n_4) → ∀ (H : Heap) (locs : List Loc), va_P G.1 vwCl [(h, .inr (3, [.int (iz size), .int (iz naming), .int (iz bs), .int (iz ba), .ref eA, .ref nA, .ref oA, .ref tA, .ref aA, .ref xA, .int (iz sn), .int (iz ag), .int (iz sl), .long (lz ht), .long (lz bm)])), (eA, .inl (G.2 0, 40, .inl (av ec))), (nA, .inl (G.2 3, 30, .inl (bv nm))), (oA, .inl (G.2 0, 30, .inl (av dO))), (tA, .inl (G.2 0, 120, .inl (av t))), (aA, .inl (G.2 0, 30, .inl (av dd))), (xA, .inl (G.2 0, 30, .inl (av xx)))] H → va_D A [(h, .inr (3, [.int (iz size), .int (iz naming), .int (iz bs), .int (iz ba), .ref eA, .ref nA, .ref oA, .ref tA, .ref aA, .ref xA, .int (iz sn), .int (iz ag), .int (iz sl), .long (lz ht), .long (lz bm)])), (eA, .inl (G.2 0, 40, .inl (av ec))), (nA, .inl (G.2 3, 30, .inl (bv nm))), (oA, .inl (G.2 0, 30, .inl (av dO))), (tA, .inl (G.2 0, 120, .inl (av t))), (aA, .inl (G.2 0, 30, .inl (av dd))), (xA, .inl (G.2 0, 30, .inl (av xx)))] → va_S A s.heap H locs → ∀ ls : Array Slot, lv_has ls 3 [(0, .ref h), (1, .int (iz q)), (2, .int (iz i))] → W p l e ({ frames := 0, cells := 0, slots := 0, locals := 0 }) s m ([.ref h] : List Value).toArray below meth c H locs 0 0 (MQ below (va_Qi (fun (r : Int32) (u : (Int → Int) × (Int → Int)) => match u with | (d2, x2) => r = iz ((nl nm dO 30).length : Int) ∧ (∀ k : Nat, k < (nl nm dO 30).length → d2 k = (nl nm dO 30).getD k 0) ∧ ∀ k : Nat, k < (nl nm dO 30).length → x2 k = 0) (fun u__ t__ => Pst G A ((fun u : (Int → Int) × (Int → Int) => match u with | (d2, x2) => [(h, .inr (3, [.int (iz size), .int (iz naming), .int (iz bs), .int (iz ba), .ref eA, .ref nA, .ref oA, .ref tA, .ref aA, .ref xA, .int (iz sn), .int (iz ag), .int (iz sl), .long (lz ht), .long (lz bm)])), (eA, .inl (G.2 0, 40, .inl (av ec))), (nA, .inl (G.2 3, 30, .inl (bv nm))), (oA, .inl (G.2 0, 30, .inl (av dO))), (tA, .inl (G.2 0, 120, .inl (av t))), (aA, .inl (G.2 0, 30, .inl (av d2))), (xA, .inl (G.2 0, 30, .inl (av x2)))]) u__) t__) A) ([.ref h] : List Value).toArray s 0 0 A) (F0 m 4 ls []) := by
    intro n_4
    induction n_4 with
    | zero =>
      intro i q dd xx hi hq h1 h2 hm H locs hP hD hS ls hl
      exact absurd hm (Nat.not_lt_zero _)
    | succ n_4 ih_4 =>
      intro i q dd xx hi hq h1 h2 hm H locs hP hD hS ls hl
      have join_41 : ∀ (q3 : Int) (d3 : Int → Int) (x3 : Int → Int), (i < 30) → (q3 = ((nl nm dO (i + 1).toNat).length : Int)) → (∀ k : Nat, k < (nl nm dO (i + 1).toNat).length → d3 k = (nl nm dO (i + 1).toNat).getD k 0) → (∀ k : Nat, k < (nl nm dO (i + 1).toNat).length → x3 k = 0) → ∀ (H : Heap) (locs : List Loc), va_P G.1 vwCl [(h, .inr (3, [.int (iz size), .int (iz naming), .int (iz bs), .int (iz ba), .ref eA, .ref nA, .ref oA, .ref tA, .ref aA, .ref xA, .int (iz sn), .int (iz ag), .int (iz sl), .long (lz ht), .long (lz bm)])), (eA, .inl (G.2 0, 40, .inl (av ec))), (nA, .inl (G.2 3, 30, .inl (bv nm))), (oA, .inl (G.2 0, 30, .inl (av dO))), (tA, .inl (G.2 0, 120, .inl (av t))), (aA, .inl (G.2 0, 30, .inl (av d3))), (xA, .inl (G.2 0, 30, .inl (av x3)))] H → va_D A [(h, .inr (3, [.int (iz size), .int (iz naming), .int (iz bs), .int (iz ba), .ref eA, .ref nA, .ref oA, .ref tA, .ref aA, .ref xA, .int (iz sn), .int (iz ag), .int (iz sl), .long (lz ht), .long (lz bm)])), (eA, .inl (G.2 0, 40, .inl (av ec))), (nA, .inl (G.2 3, 30, .inl (bv nm))), (oA, .inl (G.2 0, 30, .inl (av dO))), (tA, .inl (G.2 0, 120, .inl (av t))), (aA, .inl (G.2 0, 30, .inl (av d3))), (xA, .inl (G.2 0, 30, .inl (av x3)))] → va_S A s.heap H locs → ∀ ls : Array Slot, lv_has ls 3 [(0, .ref h), (1, .int (iz q3)), (2, .int (iz i))] → W p l e ({ frames := 0, cells := 0, slots := 0, locals := 0 }) s m ([.ref h] : List Value).toArray below meth c H locs 0 0 (MQ below (va_Qi (fun (r : Int32) (u : (Int → Int) × (Int → Int)) => match u with | (d2, x2) => r = iz ((nl nm dO 30).length : Int) ∧ (∀ k : Nat, k < (nl nm dO 30).length → d2 k = (nl nm dO 30).getD k 0) ∧ ∀ k : Nat, k < (nl nm dO 30).length → x2 k = 0) (fun u__ t__ => Pst G A ((fun u : (Int → Int) × (Int → Int) => match u with | (d2, x2) => [(h, .inr (3, [.int (iz size), .int (iz naming), .int (iz bs), .int (iz ba), .ref eA, .ref nA, .ref oA, .ref tA, .ref aA, .ref xA, .int (iz sn), .int (iz ag), .int (iz sl), .long (lz ht), .long (lz bm)])), (eA, .inl (G.2 0, 40, .inl (av ec))), (nA, .inl (G.2 3, 30, .inl (bv nm))), (oA, .inl (G.2 0, 30, .inl (av dO))), (tA, .inl (G.2 0, 120, .inl (av t))), (aA, .inl (G.2 0, 30, .inl (av d2))), (xA, .inl (G.2 0, 30, .inl (av x2)))]) u__) t__) A) ([.ref h] : List Value).toArray s 0 0 A) (F0 m 41 ls []) := by
        intro q3 d3 x3 g9 g0 g1 g2 H locs hP hD hS ls hl
        refine lv_iinc (v := (iz (i + 1))) (lv' := [(2, .int (iz (i + 1))), (0, .ref h), (1, .int (iz q3))]) hX_ hB_ dX5_gatherDates_41 hl (k := 2) rfl (iz_add _ _) (by decide) rfl (fun ls hl => ?_)
        refine lv_goto (tgt := 4) hX_ hB_ dX5_gatherDates_44 (by decide) ?_
        exact ih_4 (i + 1) q3 d3 x3 (by omega) (by exact g0) (by exact g1) (by exact g2) (by omega) _ _ hP hD hS ls (lv_sub hl [1, 2, 0] rfl)
      refine lv_iload_n hX_ hB_ dX5_gatherDates_4 rfl (lv_at hl 2 rfl) ?_
      refine zk_bipush hX_ hB_ (by decide) dX5_gatherDates_5 ?_
      refine zk_icmp_ge (tgt := 47) hX_ hB_ (by omega) (by omega) dX5_gatherDates_7 (by decide) (fun c_7 => ?_) (fun c_7 => ?_)
      · skip
        refine lv_iload_n hX_ hB_ dX5_gatherDates_47 rfl (lv_at hl 1 rfl) ?_
        exact fin_i (wf := (fun u : (Int → Int) × (Int → Int) => match u with | (d2, x2) => [(h, .inr (3, [.int (iz size), .int (iz naming), .int (iz bs), .int (iz ba), .ref eA, .ref nA, .ref oA, .ref tA, .ref aA, .ref xA, .int (iz sn), .int (iz ag), .int (iz sl), .long (lz ht), .long (lz bm)])), (eA, .inl (G.2 0, 40, .inl (av ec))), (nA, .inl (G.2 3, 30, .inl (bv nm))), (oA, .inl (G.2 0, 30, .inl (av dO))), (tA, .inl (G.2 0, 120, .inl (av t))), (aA, .inl (G.2 0, 30, .inl (av d2))), (xA, .inl (G.2 0, 30, .inl (av x2)))])) (dd, xx) F rfl hP hD hK hS (by decide) (by decide) dX5_gatherDates_48 (by have ei : i = 30 := (by omega); subst ei; exact ⟨by rw [hq]; rfl, h1, h2⟩)
      · skip
        refine lv_aload_n hX_ hB_ dX5_gatherDates_10 rfl (lv_at hl 0 rfl) ?_
        refine va_get (D := G.1) (ci := 3) (v := .ref nA) (C := RX5) (T := TX5) (N := 15) hX_ hB_ hts hi_X5_gatherDates_X5 hown hK.1 hP 0 rfl rfl 5 (by decide) (hts _ hw_X5_gatherDates_ea45f9) (fun _ h9 => h9) rfl dX5_gatherDates_11 ?_
        refine lv_iload_n hX_ hB_ dX5_gatherDates_14 rfl (lv_at hl 2 rfl) ?_
        refine zk_zald hX_ hB_ hK.1 hP 2 3 rfl rfl (by omega) (by decide) dX5_gatherDates_15 ?_
        refine zk_bif_eq (tgt := 41) hX_ hB_ dX5_gatherDates_16 (by decide) (fun c_16 => ?_) (fun c_16 => ?_)
        · skip
          have en : nl nm dO (i + 1).toNat = nl nm dO i.toNat := by rw [nl_z hi.1, c_16]; simp
          exact join_41 q dd xx (by omega) (by rw [en]; exact hq) (by rw [en]; exact h1) (by rw [en]; exact h2) _ _ hP hD hS ls (lv_sub hl [0, 1, 2] rfl)
        · skip
          have hle := nl_le (nm := nm) (dO := dO) i.toNat
          refine lv_aload_n hX_ hB_ dX5_gatherDates_19 rfl (lv_at hl 0 rfl) ?_
          refine va_get (D := G.1) (ci := 3) (v := .ref aA) (C := RX5) (T := TX5) (N := 15) hX_ hB_ hts hi_X5_gatherDates_X5 hown hK.1 hP 0 rfl rfl 8 (by decide) (hts _ hw_X5_gatherDates_069bc0) (fun _ h9 => h9) rfl dX5_gatherDates_20 ?_
          refine lv_iload_n hX_ hB_ dX5_gatherDates_23 rfl (lv_at hl 1 rfl) ?_
          refine lv_aload_n hX_ hB_ dX5_gatherDates_24 rfl (lv_at hl 0 rfl) ?_
          refine va_get (D := G.1) (ci := 3) (v := .ref oA) (C := RX5) (T := TX5) (N := 15) hX_ hB_ hts hi_X5_gatherDates_X5 hown hK.1 hP 0 rfl rfl 6 (by decide) (hts _ hw_X5_gatherDates_336b52) (fun _ h9 => h9) rfl dX5_gatherDates_25 ?_
          refine lv_iload_n hX_ hB_ dX5_gatherDates_28 rfl (lv_at hl 2 rfl) ?_
          refine zk_iald hX_ hB_ hK.1 hP 3 0 rfl rfl (by omega) (by decide) dX5_gatherDates_29 ?_
          refine zk_iast hX_ hB_ hK.1 hP hD hS 5 0 rfl rfl (by omega) (by decide) dX5_gatherDates_30 (fun H locs hP hD hS => ?_)
          have hP : va_P G.1 vwCl [(h, .inr (3, [.int (iz size), .int (iz naming), .int (iz bs), .int (iz ba), .ref eA, .ref nA, .ref oA, .ref tA, .ref aA, .ref xA, .int (iz sn), .int (iz ag), .int (iz sl), .long (lz ht), .long (lz bm)])), (eA, .inl (G.2 0, 40, .inl (av ec))), (nA, .inl (G.2 3, 30, .inl (bv nm))), (oA, .inl (G.2 0, 30, .inl (av dO))), (tA, .inl (G.2 0, 120, .inl (av t))), (aA, .inl (G.2 0, 30, .inl (av (us dd q (dO i))))), (xA, .inl (G.2 0, 30, .inl (av xx)))] _ := hP
          have hD : va_D A [(h, .inr (3, [.int (iz size), .int (iz naming), .int (iz bs), .int (iz ba), .ref eA, .ref nA, .ref oA, .ref tA, .ref aA, .ref xA, .int (iz sn), .int (iz ag), .int (iz sl), .long (lz ht), .long (lz bm)])), (eA, .inl (G.2 0, 40, .inl (av ec))), (nA, .inl (G.2 3, 30, .inl (bv nm))), (oA, .inl (G.2 0, 30, .inl (av dO))), (tA, .inl (G.2 0, 120, .inl (av t))), (aA, .inl (G.2 0, 30, .inl (av (us dd q (dO i))))), (xA, .inl (G.2 0, 30, .inl (av xx)))] := hD
          refine lv_aload_n hX_ hB_ dX5_gatherDates_31 rfl (lv_at hl 0 rfl) ?_
          refine va_get (D := G.1) (ci := 3) (v := .ref xA) (C := RX5) (T := TX5) (N := 15) hX_ hB_ hts hi_X5_gatherDates_X5 hown hK.1 hP 0 rfl rfl 9 (by decide) (hts _ hw_X5_gatherDates_a6b57e) (fun _ h9 => h9) rfl dX5_gatherDates_32 ?_
          refine lv_iload_n hX_ hB_ dX5_gatherDates_35 rfl (lv_at hl 1 rfl) ?_
          refine zk_iconst hX_ hB_ dX5_gatherDates_36 ?_
          refine zk_iast hX_ hB_ hK.1 hP hD hS 6 0 rfl rfl (by omega) (by decide) dX5_gatherDates_37 (fun H locs hP hD hS => ?_)
          have hP : va_P G.1 vwCl [(h, .inr (3, [.int (iz size), .int (iz naming), .int (iz bs), .int (iz ba), .ref eA, .ref nA, .ref oA, .ref tA, .ref aA, .ref xA, .int (iz sn), .int (iz ag), .int (iz sl), .long (lz ht), .long (lz bm)])), (eA, .inl (G.2 0, 40, .inl (av ec))), (nA, .inl (G.2 3, 30, .inl (bv nm))), (oA, .inl (G.2 0, 30, .inl (av dO))), (tA, .inl (G.2 0, 120, .inl (av t))), (aA, .inl (G.2 0, 30, .inl (av (us dd q (dO i))))), (xA, .inl (G.2 0, 30, .inl (av (us xx q 0))))] _ := hP
          have hD : va_D A [(h, .inr (3, [.int (iz size), .int (iz naming), .int (iz bs), .int (iz ba), .ref eA, .ref nA, .ref oA, .ref tA, .ref aA, .ref xA, .int (iz sn), .int (iz ag), .int (iz sl), .long (lz ht), .long (lz bm)])), (eA, .inl (G.2 0, 40, .inl (av ec))), (nA, .inl (G.2 3, 30, .inl (bv nm))), (oA, .inl (G.2 0, 30, .inl (av dO))), (tA, .inl (G.2 0, 120, .inl (av t))), (aA, .inl (G.2 0, 30, .inl (av (us dd q (dO i))))), (xA, .inl (G.2 0, 30, .inl (av (us xx q 0))))] := hD
          refine lv_iinc (v := (iz (q + 1))) (lv' := [(1, .int (iz (q + 1))), (0, .ref h), (2, .int (iz i))]) hX_ hB_ dX5_gatherDates_38 hl (k := 1) rfl (iz_add _ _) (by decide) rfl (fun ls hl => ?_)
          have en : nl nm dO (i + 1).toNat = nl nm dO i.toNat ++ [dO i] := by rw [nl_z hi.1, c_16]; rfl
          exact join_41 (q + 1) (us dd q (dO i)) (us xx q 0) (by omega) (by rw [en, List.length_append, hq]; simp) (by intro k hk; rw [en] at hk ⊢; rw [List.length_append, List.length_singleton] at hk; unfold us; by_cases e9 : k = (nl nm dO i.toNat).length; (rw [if_pos (by omega), e9]; simp [List.getD]); (rw [if_neg (by omega), h1 k (by omega)]; simp [List.getD, List.getElem?_append_left (show k < (nl nm dO i.toNat).length by omega)])) (by intro k hk; rw [en] at hk; rw [List.length_append, List.length_singleton] at hk; unfold us; by_cases e9 : k = (nl nm dO i.toNat).length; rw [if_pos (by omega)]; (rw [if_neg (by omega)]; exact h2 k (by omega))) _ _ hP hD hS ls (lv_sub hl [1, 0, 2] rfl)
  exact loop_4 _ 0 0 d x (by omega) (by rfl) (by intro k hk; exact absurd hk (Nat.not_lt_zero k)) (by intro k hk; exact absurd hk (Nat.not_lt_zero k)) (Nat.lt_succ_self _) _ _ hP hD hS ls (lv_sub hl [2, 1, 0] rfl)

theorem hw_X5_placeTurns_8f8c49 : (.fieldLink RX5 35 "StoneDates$Sky" "size" "I" : Cond) ∈ wsX5_placeTurns := by decide +kernel
theorem hi_X5_placeTurns_X5 : ∀ w ∈ u_ws RX5 TX5 15, w ∈ wsX5_placeTurns := by decide +kernel
theorem hw_X5_placeTurns_33b0e1 : (.fieldLink RX5 9 "StoneDates$Sky" "eclipses" "[I" : Cond) ∈ wsX5_placeTurns := by decide +kernel
theorem hw_X5_placeTurns_520157 : (.fieldLink RX5 22 "StoneDates$Sky" "turns" "[I" : Cond) ∈ wsX5_placeTurns := by decide +kernel
theorem hw_X5_placeTurns_0f3add : (.methodLink RX5 84 Lib.Math.min.name : Cond) ∈ wsX5_placeTurns := by decide +kernel
theorem hw_X5_placeTurns_79b26a : (.static Lib.Math.min.name : Cond) ∈ wsX5_placeTurns := by decide +kernel
theorem hw_X5_placeTurns_868a92 : (.initialized "java/lang/Math" : Cond) ∈ wsX5_placeTurns := by decide +kernel
theorem hw_X5_placeTurns_0fd793 : (.code Lib.Math.min.name Lib.Math.min.code 2 (some .int) : Cond) ∈ wsX5_placeTurns := by decide +kernel
theorem hw_X5_placeTurns_23ff4a : (.methodLink RX5 78 Lib.Math.max.name : Cond) ∈ wsX5_placeTurns := by decide +kernel
theorem hw_X5_placeTurns_80a2ec : (.static Lib.Math.max.name : Cond) ∈ wsX5_placeTurns := by decide +kernel
theorem hw_X5_placeTurns_b6349a : (.code Lib.Math.max.name Lib.Math.max.code 2 (some .int) : Cond) ∈ wsX5_placeTurns := by decide +kernel
set_option maxHeartbeats 4000000 in
set_option maxRecDepth 100000 in
theorem c_X5_placeTurns (l : Launch) (G : GG) (h : Nat) (eA : Nat) (nA : Nat) (oA : Nat) (tA : Nat) (aA : Nat) (xA : Nat) (size : Int) (naming : Int) (bs : Int) (ba : Int) (sn : Int) (ag : Int) (sl : Int) (ht : Int) (bm : Int) (ec : Int → Int) (nm : Int → Bool) (dO : Int → Int) (t : Int → Int) (d : Int → Int) (x : Int → Int) (nr : Int) (hz : 0 ≤ size ∧ size ≤ 40) (hnr : 0 ≤ nr ∧ nr ≤ 1000) (he : ∀ i : Int, 0 ≤ i → i < size → 0 ≤ ec i ∧ ec i ≤ 10000000) : Cv l yX5_placeTurns wsX5_placeTurns ({ frames := 1, cells := 0, slots := 0, locals := 21 }) G E0 [.ref h, .int (iz nr)] [(h, .inr (3, [.int (iz size), .int (iz naming), .int (iz bs), .int (iz ba), .ref eA, .ref nA, .ref oA, .ref tA, .ref aA, .ref xA, .int (iz sn), .int (iz ag), .int (iz sl), .long (lz ht), .long (lz bm)])), (eA, .inl (G.2 0, 40, .inl (av ec))), (nA, .inl (G.2 3, 30, .inl (bv nm))), (oA, .inl (G.2 0, 30, .inl (av dO))), (tA, .inl (G.2 0, 120, .inl (av t))), (aA, .inl (G.2 0, 30, .inl (av d))), (xA, .inl (G.2 0, 30, .inl (av x)))] 0 0 (fun t2 : (Int → Int) => [(h, .inr (3, [.int (iz size), .int (iz naming), .int (iz bs), .int (iz ba), .ref eA, .ref nA, .ref oA, .ref tA, .ref aA, .ref xA, .int (iz sn), .int (iz ag), .int (iz sl), .long (lz ht), .long (lz bm)])), (eA, .inl (G.2 0, 40, .inl (av ec))), (nA, .inl (G.2 3, 30, .inl (bv nm))), (oA, .inl (G.2 0, 30, .inl (av dO))), (tA, .inl (G.2 0, 120, .inl (av t2))), (aA, .inl (G.2 0, 30, .inl (av d))), (xA, .inl (G.2 0, 30, .inl (av x)))]) (fun (t2 : (Int → Int)) => ∀ i : Int, 0 ≤ i → i < size → t2 (3 * i) = tF ec nr i ∧ t2 (3 * i + 1) = ec i ∧ t2 (3 * i + 2) = tL ec size nr i + 1) := by
  refine Cv_intro (cc := cX5_placeTurns) (maxL := 5) (ret := none) (by decide) rfl (Nat.le_of_ble_eq_true rfl) ?_
  intro p e s m below meth c A F hA hP hD hK hE ls hl
  have hX_ := F.1
  have hB_ := F.2.1
  have hts := F.2.2.2.2.2.1
  have hown := F.2.2.2.2.1
  have hml := F.2.2.2.1
  have hS : va_S A s.heap s.heap [] := va_S.rf
  have hl : lv_has ls 5 [(0, .ref h), (1, .int (iz nr))] := hl
  refine zk_iconst hX_ hB_ dX5_placeTurns_0 ?_
  refine lv_istore_n (lv' := [(2, .int (iz 0)), (0, .ref h), (1, .int (iz nr))]) hX_ hB_ dX5_placeTurns_1 rfl hl (by decide) rfl (fun ls hl => ?_)
  have loop_2 : ∀ (n_2 : Nat), ∀ (i : Int) (tt : Int → Int), (0 ≤ i ∧ i ≤ size) → (∀ j : Int, 0 ≤ j → j < i → tt (3 * j) = tF ec nr j ∧ tt (3 * j + 1) = ec j ∧ tt (3 * j + 2) = tL ec size nr j + 1) → ((size - i).toNat < n_2) → ∀ (H : Heap) (locs : List Loc), va_P G.1 vwCl [(h, .inr (3, [.int (iz size), .int (iz naming), .int (iz bs), .int (iz ba), .ref eA, .ref nA, .ref oA, .ref tA, .ref aA, .ref xA, .int (iz sn), .int (iz ag), .int (iz sl), .long (lz ht), .long (lz bm)])), (eA, .inl (G.2 0, 40, .inl (av ec))), (nA, .inl (G.2 3, 30, .inl (bv nm))), (oA, .inl (G.2 0, 30, .inl (av dO))), (tA, .inl (G.2 0, 120, .inl (av tt))), (aA, .inl (G.2 0, 30, .inl (av d))), (xA, .inl (G.2 0, 30, .inl (av x)))] H → va_D A [(h, .inr (3, [.int (iz size), .int (iz naming), .int (iz bs), .int (iz ba), .ref eA, .ref nA, .ref oA, .ref tA, .ref aA, .ref xA, .int (iz sn), .int (iz ag), .int (iz sl), .long (lz ht), .long (lz bm)])), (eA, .inl (G.2 0, 40, .inl (av ec))), (nA, .inl (G.2 3, 30, .inl (bv nm))), (oA, .inl (G.2 0, 30, .inl (av dO))), (tA, .inl (G.2 0, 120, .inl (av tt))), (aA, .inl (G.2 0, 30, .inl (av d))), (xA, .inl (G.2 0, 30, .inl (av x)))] → va_S A s.heap H locs → ∀ ls : Array Slot, lv_has ls 5 [(0, .ref h), (1, .int (iz nr)), (2, .int (iz i))] → W p l e ({ frames := 1, cells := 0, slots := 0, locals := 21 }) s m ([.ref h, .int (iz nr)] : List Value).toArray below meth c H locs 0 0 (MQ below (va_Qv (fun (t2 : (Int → Int)) => ∀ i : Int, 0 ≤ i → i < size → t2 (3 * i) = tF ec nr i ∧ t2 (3 * i + 1) = ec i ∧ t2 (3 * i + 2) = tL ec size nr i + 1) (fun u__ t__ => Pst G A ((fun t2 : (Int → Int) => [(h, .inr (3, [.int (iz size), .int (iz naming), .int (iz bs), .int (iz ba), .ref eA, .ref nA, .ref oA, .ref tA, .ref aA, .ref xA, .int (iz sn), .int (iz ag), .int (iz sl), .long (lz ht), .long (lz bm)])), (eA, .inl (G.2 0, 40, .inl (av ec))), (nA, .inl (G.2 3, 30, .inl (bv nm))), (oA, .inl (G.2 0, 30, .inl (av dO))), (tA, .inl (G.2 0, 120, .inl (av t2))), (aA, .inl (G.2 0, 30, .inl (av d))), (xA, .inl (G.2 0, 30, .inl (av x)))]) u__) t__) A) ([.ref h, .int (iz nr)] : List Value).toArray s 0 0 A) (F0 m 2 ls []) := by
    intro n_2
    induction n_2 with
    | zero =>
      intro i tt hi hg hm H locs hP hD hS ls hl
      exact absurd hm (Nat.not_lt_zero _)
    | succ n_2 ih_2 =>
      intro i tt hi hg hm H locs hP hD hS ls hl
      refine lv_iload_n hX_ hB_ dX5_placeTurns_2 rfl (lv_at hl 2 rfl) ?_
      refine lv_aload_n hX_ hB_ dX5_placeTurns_3 rfl (lv_at hl 0 rfl) ?_
      refine va_get (D := G.1) (ci := 3) (v := .int (iz size)) (C := RX5) (T := TX5) (N := 15) hX_ hB_ hts hi_X5_placeTurns_X5 hown hK.1 hP 0 rfl rfl 0 (by decide) (hts _ hw_X5_placeTurns_8f8c49) (fun _ h9 => h9) rfl dX5_placeTurns_4 ?_
      refine zk_icmp_ge (tgt := 136) hX_ hB_ (by omega) (by omega) dX5_placeTurns_7 (by decide) (fun c_7 => ?_) (fun c_7 => ?_)
      · skip
        exact fin_v (wf := (fun t2 : (Int → Int) => [(h, .inr (3, [.int (iz size), .int (iz naming), .int (iz bs), .int (iz ba), .ref eA, .ref nA, .ref oA, .ref tA, .ref aA, .ref xA, .int (iz sn), .int (iz ag), .int (iz sl), .long (lz ht), .long (lz bm)])), (eA, .inl (G.2 0, 40, .inl (av ec))), (nA, .inl (G.2 3, 30, .inl (bv nm))), (oA, .inl (G.2 0, 30, .inl (av dO))), (tA, .inl (G.2 0, 120, .inl (av t2))), (aA, .inl (G.2 0, 30, .inl (av d))), (xA, .inl (G.2 0, 30, .inl (av x)))])) tt F hP hD hK hS (by decide) (by decide) dX5_placeTurns_136 (by have ei : i = size := (by omega); subst ei; exact hg)
      · skip
        have hei := he i (by omega) (by omega)
        refine lv_aload_n hX_ hB_ dX5_placeTurns_10 rfl (lv_at hl 0 rfl) ?_
        refine va_get (D := G.1) (ci := 3) (v := .ref eA) (C := RX5) (T := TX5) (N := 15) hX_ hB_ hts hi_X5_placeTurns_X5 hown hK.1 hP 0 rfl rfl 4 (by decide) (hts _ hw_X5_placeTurns_33b0e1) (fun _ h9 => h9) rfl dX5_placeTurns_11 ?_
        refine lv_iload_n hX_ hB_ dX5_placeTurns_14 rfl (lv_at hl 2 rfl) ?_
        refine zk_iald hX_ hB_ hK.1 hP 1 0 rfl rfl (by omega) (by decide) dX5_placeTurns_15 ?_
        refine lv_iload_n hX_ hB_ dX5_placeTurns_16 rfl (lv_at hl 1 rfl) ?_
        refine zk_isub hX_ hB_ dX5_placeTurns_17 ?_
        refine lv_istore_n (lv' := [(3, .int (iz ((ec i) - nr))), (0, .ref h), (1, .int (iz nr)), (2, .int (iz i))]) hX_ hB_ dX5_placeTurns_18 rfl hl (by decide) rfl (fun ls hl => ?_)
        refine lv_aload_n hX_ hB_ dX5_placeTurns_19 rfl (lv_at hl 1 rfl) ?_
        refine va_get (D := G.1) (ci := 3) (v := .ref eA) (C := RX5) (T := TX5) (N := 15) hX_ hB_ hts hi_X5_placeTurns_X5 hown hK.1 hP 0 rfl rfl 4 (by decide) (hts _ hw_X5_placeTurns_33b0e1) (fun _ h9 => h9) rfl dX5_placeTurns_20 ?_
        refine lv_iload_n hX_ hB_ dX5_placeTurns_23 rfl (lv_at hl 3 rfl) ?_
        refine zk_iald hX_ hB_ hK.1 hP 1 0 rfl rfl (by omega) (by decide) dX5_placeTurns_24 ?_
        refine lv_iload_n hX_ hB_ dX5_placeTurns_25 rfl (lv_at hl 2 rfl) ?_
        refine zk_iadd hX_ hB_ dX5_placeTurns_26 ?_
        refine lv_istore (lv' := [(4, .int (iz ((ec i) + nr))), (3, .int (iz ((ec i) - nr))), (0, .ref h), (1, .int (iz nr)), (2, .int (iz i))]) hX_ hB_ dX5_placeTurns_27 hl (by decide) rfl (fun ls hl => ?_)
        have join_57 : ∀ (fr : Int), (fr = tF ec nr i) → ∀ (H : Heap) (locs : List Loc), va_P G.1 vwCl [(h, .inr (3, [.int (iz size), .int (iz naming), .int (iz bs), .int (iz ba), .ref eA, .ref nA, .ref oA, .ref tA, .ref aA, .ref xA, .int (iz sn), .int (iz ag), .int (iz sl), .long (lz ht), .long (lz bm)])), (eA, .inl (G.2 0, 40, .inl (av ec))), (nA, .inl (G.2 3, 30, .inl (bv nm))), (oA, .inl (G.2 0, 30, .inl (av dO))), (tA, .inl (G.2 0, 120, .inl (av tt))), (aA, .inl (G.2 0, 30, .inl (av d))), (xA, .inl (G.2 0, 30, .inl (av x)))] H → va_D A [(h, .inr (3, [.int (iz size), .int (iz naming), .int (iz bs), .int (iz ba), .ref eA, .ref nA, .ref oA, .ref tA, .ref aA, .ref xA, .int (iz sn), .int (iz ag), .int (iz sl), .long (lz ht), .long (lz bm)])), (eA, .inl (G.2 0, 40, .inl (av ec))), (nA, .inl (G.2 3, 30, .inl (bv nm))), (oA, .inl (G.2 0, 30, .inl (av dO))), (tA, .inl (G.2 0, 120, .inl (av tt))), (aA, .inl (G.2 0, 30, .inl (av d))), (xA, .inl (G.2 0, 30, .inl (av x)))] → va_S A s.heap H locs → ∀ ls : Array Slot, lv_has ls 5 [(0, .ref h), (1, .int (iz nr)), (2, .int (iz i)), (3, .int (iz fr)), (4, .int (iz ((ec i) + nr)))] → W p l e ({ frames := 1, cells := 0, slots := 0, locals := 21 }) s m ([.ref h, .int (iz nr)] : List Value).toArray below meth c H locs 0 0 (MQ below (va_Qv (fun (t2 : (Int → Int)) => ∀ i : Int, 0 ≤ i → i < size → t2 (3 * i) = tF ec nr i ∧ t2 (3 * i + 1) = ec i ∧ t2 (3 * i + 2) = tL ec size nr i + 1) (fun u__ t__ => Pst G A ((fun t2 : (Int → Int) => [(h, .inr (3, [.int (iz size), .int (iz naming), .int (iz bs), .int (iz ba), .ref eA, .ref nA, .ref oA, .ref tA, .ref aA, .ref xA, .int (iz sn), .int (iz ag), .int (iz sl), .long (lz ht), .long (lz bm)])), (eA, .inl (G.2 0, 40, .inl (av ec))), (nA, .inl (G.2 3, 30, .inl (bv nm))), (oA, .inl (G.2 0, 30, .inl (av dO))), (tA, .inl (G.2 0, 120, .inl (av t2))), (aA, .inl (G.2 0, 30, .inl (av d))), (xA, .inl (G.2 0, 30, .inl (av x)))]) u__) t__) A) ([.ref h, .int (iz nr)] : List Value).toArray s 0 0 A) (F0 m 57 ls []) := by
          intro fr ef H locs hP hD hS ls hl
          have join_91 : ∀ (la : Int), (la = tL ec size nr i) → ∀ (H : Heap) (locs : List Loc), va_P G.1 vwCl [(h, .inr (3, [.int (iz size), .int (iz naming), .int (iz bs), .int (iz ba), .ref eA, .ref nA, .ref oA, .ref tA, .ref aA, .ref xA, .int (iz sn), .int (iz ag), .int (iz sl), .long (lz ht), .long (lz bm)])), (eA, .inl (G.2 0, 40, .inl (av ec))), (nA, .inl (G.2 3, 30, .inl (bv nm))), (oA, .inl (G.2 0, 30, .inl (av dO))), (tA, .inl (G.2 0, 120, .inl (av tt))), (aA, .inl (G.2 0, 30, .inl (av d))), (xA, .inl (G.2 0, 30, .inl (av x)))] H → va_D A [(h, .inr (3, [.int (iz size), .int (iz naming), .int (iz bs), .int (iz ba), .ref eA, .ref nA, .ref oA, .ref tA, .ref aA, .ref xA, .int (iz sn), .int (iz ag), .int (iz sl), .long (lz ht), .long (lz bm)])), (eA, .inl (G.2 0, 40, .inl (av ec))), (nA, .inl (G.2 3, 30, .inl (bv nm))), (oA, .inl (G.2 0, 30, .inl (av dO))), (tA, .inl (G.2 0, 120, .inl (av tt))), (aA, .inl (G.2 0, 30, .inl (av d))), (xA, .inl (G.2 0, 30, .inl (av x)))] → va_S A s.heap H locs → ∀ ls : Array Slot, lv_has ls 5 [(0, .ref h), (1, .int (iz nr)), (2, .int (iz i)), (3, .int (iz fr)), (4, .int (iz la))] → W p l e ({ frames := 1, cells := 0, slots := 0, locals := 21 }) s m ([.ref h, .int (iz nr)] : List Value).toArray below meth c H locs 0 0 (MQ below (va_Qv (fun (t2 : (Int → Int)) => ∀ i : Int, 0 ≤ i → i < size → t2 (3 * i) = tF ec nr i ∧ t2 (3 * i + 1) = ec i ∧ t2 (3 * i + 2) = tL ec size nr i + 1) (fun u__ t__ => Pst G A ((fun t2 : (Int → Int) => [(h, .inr (3, [.int (iz size), .int (iz naming), .int (iz bs), .int (iz ba), .ref eA, .ref nA, .ref oA, .ref tA, .ref aA, .ref xA, .int (iz sn), .int (iz ag), .int (iz sl), .long (lz ht), .long (lz bm)])), (eA, .inl (G.2 0, 40, .inl (av ec))), (nA, .inl (G.2 3, 30, .inl (bv nm))), (oA, .inl (G.2 0, 30, .inl (av dO))), (tA, .inl (G.2 0, 120, .inl (av t2))), (aA, .inl (G.2 0, 30, .inl (av d))), (xA, .inl (G.2 0, 30, .inl (av x)))]) u__) t__) A) ([.ref h, .int (iz nr)] : List Value).toArray s 0 0 A) (F0 m 91 ls []) := by
            intro la el H locs hP hD hS ls hl
            refine lv_aload_n hX_ hB_ dX5_placeTurns_91 rfl (lv_at hl 0 rfl) ?_
            refine va_get (D := G.1) (ci := 3) (v := .ref tA) (C := RX5) (T := TX5) (N := 15) hX_ hB_ hts hi_X5_placeTurns_X5 hown hK.1 hP 0 rfl rfl 7 (by decide) (hts _ hw_X5_placeTurns_520157) (fun _ h9 => h9) rfl dX5_placeTurns_92 ?_
            refine zk_iconst hX_ hB_ dX5_placeTurns_95 ?_
            refine lv_iload_n hX_ hB_ dX5_placeTurns_96 rfl (lv_at hl 2 rfl) ?_
            refine zk_imul hX_ hB_ dX5_placeTurns_97 ?_
            refine lv_iload_n hX_ hB_ dX5_placeTurns_98 rfl (lv_at hl 3 rfl) ?_
            refine zk_iast hX_ hB_ hK.1 hP hD hS 4 0 rfl rfl (by omega) (by decide) dX5_placeTurns_99 (fun H locs hP hD hS => ?_)
            have hP : va_P G.1 vwCl [(h, .inr (3, [.int (iz size), .int (iz naming), .int (iz bs), .int (iz ba), .ref eA, .ref nA, .ref oA, .ref tA, .ref aA, .ref xA, .int (iz sn), .int (iz ag), .int (iz sl), .long (lz ht), .long (lz bm)])), (eA, .inl (G.2 0, 40, .inl (av ec))), (nA, .inl (G.2 3, 30, .inl (bv nm))), (oA, .inl (G.2 0, 30, .inl (av dO))), (tA, .inl (G.2 0, 120, .inl (av (us tt (3 * i) fr)))), (aA, .inl (G.2 0, 30, .inl (av d))), (xA, .inl (G.2 0, 30, .inl (av x)))] _ := hP
            have hD : va_D A [(h, .inr (3, [.int (iz size), .int (iz naming), .int (iz bs), .int (iz ba), .ref eA, .ref nA, .ref oA, .ref tA, .ref aA, .ref xA, .int (iz sn), .int (iz ag), .int (iz sl), .long (lz ht), .long (lz bm)])), (eA, .inl (G.2 0, 40, .inl (av ec))), (nA, .inl (G.2 3, 30, .inl (bv nm))), (oA, .inl (G.2 0, 30, .inl (av dO))), (tA, .inl (G.2 0, 120, .inl (av (us tt (3 * i) fr)))), (aA, .inl (G.2 0, 30, .inl (av d))), (xA, .inl (G.2 0, 30, .inl (av x)))] := hD
            refine lv_aload_n hX_ hB_ dX5_placeTurns_100 rfl (lv_at hl 0 rfl) ?_
            refine va_get (D := G.1) (ci := 3) (v := .ref tA) (C := RX5) (T := TX5) (N := 15) hX_ hB_ hts hi_X5_placeTurns_X5 hown hK.1 hP 0 rfl rfl 7 (by decide) (hts _ hw_X5_placeTurns_520157) (fun _ h9 => h9) rfl dX5_placeTurns_101 ?_
            refine zk_iconst hX_ hB_ dX5_placeTurns_104 ?_
            refine lv_iload_n hX_ hB_ dX5_placeTurns_105 rfl (lv_at hl 2 rfl) ?_
            refine zk_imul hX_ hB_ dX5_placeTurns_106 ?_
            refine zk_iconst hX_ hB_ dX5_placeTurns_107 ?_
            refine zk_iadd hX_ hB_ dX5_placeTurns_108 ?_
            refine lv_aload_n hX_ hB_ dX5_placeTurns_109 rfl (lv_at hl 0 rfl) ?_
            refine va_get (D := G.1) (ci := 3) (v := .ref eA) (C := RX5) (T := TX5) (N := 15) hX_ hB_ hts hi_X5_placeTurns_X5 hown hK.1 hP 0 rfl rfl 4 (by decide) (hts _ hw_X5_placeTurns_33b0e1) (fun _ h9 => h9) rfl dX5_placeTurns_110 ?_
            refine lv_iload_n hX_ hB_ dX5_placeTurns_113 rfl (lv_at hl 2 rfl) ?_
            refine zk_iald hX_ hB_ hK.1 hP 1 0 rfl rfl (by omega) (by decide) dX5_placeTurns_114 ?_
            refine zk_iast hX_ hB_ hK.1 hP hD hS 4 0 rfl rfl (by omega) (by decide) dX5_placeTurns_115 (fun H locs hP hD hS => ?_)
            have hP : va_P G.1 vwCl [(h, .inr (3, [.int (iz size), .int (iz naming), .int (iz bs), .int (iz ba), .ref eA, .ref nA, .ref oA, .ref tA, .ref aA, .ref xA, .int (iz sn), .int (iz ag), .int (iz sl), .long (lz ht), .long (lz bm)])), (eA, .inl (G.2 0, 40, .inl (av ec))), (nA, .inl (G.2 3, 30, .inl (bv nm))), (oA, .inl (G.2 0, 30, .inl (av dO))), (tA, .inl (G.2 0, 120, .inl (av (us (us tt (3 * i) fr) ((3 * i) + 1) (ec i))))), (aA, .inl (G.2 0, 30, .inl (av d))), (xA, .inl (G.2 0, 30, .inl (av x)))] _ := hP
            have hD : va_D A [(h, .inr (3, [.int (iz size), .int (iz naming), .int (iz bs), .int (iz ba), .ref eA, .ref nA, .ref oA, .ref tA, .ref aA, .ref xA, .int (iz sn), .int (iz ag), .int (iz sl), .long (lz ht), .long (lz bm)])), (eA, .inl (G.2 0, 40, .inl (av ec))), (nA, .inl (G.2 3, 30, .inl (bv nm))), (oA, .inl (G.2 0, 30, .inl (av dO))), (tA, .inl (G.2 0, 120, .inl (av (us (us tt (3 * i) fr) ((3 * i) + 1) (ec i))))), (aA, .inl (G.2 0, 30, .inl (av d))), (xA, .inl (G.2 0, 30, .inl (av x)))] := hD
            refine lv_aload_n hX_ hB_ dX5_placeTurns_116 rfl (lv_at hl 0 rfl) ?_
            refine va_get (D := G.1) (ci := 3) (v := .ref tA) (C := RX5) (T := TX5) (N := 15) hX_ hB_ hts hi_X5_placeTurns_X5 hown hK.1 hP 0 rfl rfl 7 (by decide) (hts _ hw_X5_placeTurns_520157) (fun _ h9 => h9) rfl dX5_placeTurns_117 ?_
            refine zk_iconst hX_ hB_ dX5_placeTurns_120 ?_
            refine lv_iload_n hX_ hB_ dX5_placeTurns_121 rfl (lv_at hl 2 rfl) ?_
            refine zk_imul hX_ hB_ dX5_placeTurns_122 ?_
            refine zk_iconst hX_ hB_ dX5_placeTurns_123 ?_
            refine zk_iadd hX_ hB_ dX5_placeTurns_124 ?_
            refine lv_iload hX_ hB_ dX5_placeTurns_125 (lv_at hl 4 rfl) ?_
            refine zk_iconst hX_ hB_ dX5_placeTurns_127 ?_
            refine zk_iadd hX_ hB_ dX5_placeTurns_128 ?_
            refine zk_iast hX_ hB_ hK.1 hP hD hS 4 0 rfl rfl (by omega) (by decide) dX5_placeTurns_129 (fun H locs hP hD hS => ?_)
            have hP : va_P G.1 vwCl [(h, .inr (3, [.int (iz size), .int (iz naming), .int (iz bs), .int (iz ba), .ref eA, .ref nA, .ref oA, .ref tA, .ref aA, .ref xA, .int (iz sn), .int (iz ag), .int (iz sl), .long (lz ht), .long (lz bm)])), (eA, .inl (G.2 0, 40, .inl (av ec))), (nA, .inl (G.2 3, 30, .inl (bv nm))), (oA, .inl (G.2 0, 30, .inl (av dO))), (tA, .inl (G.2 0, 120, .inl (av (us (us (us tt (3 * i) fr) ((3 * i) + 1) (ec i)) ((3 * i) + 2) (la + 1))))), (aA, .inl (G.2 0, 30, .inl (av d))), (xA, .inl (G.2 0, 30, .inl (av x)))] _ := hP
            have hD : va_D A [(h, .inr (3, [.int (iz size), .int (iz naming), .int (iz bs), .int (iz ba), .ref eA, .ref nA, .ref oA, .ref tA, .ref aA, .ref xA, .int (iz sn), .int (iz ag), .int (iz sl), .long (lz ht), .long (lz bm)])), (eA, .inl (G.2 0, 40, .inl (av ec))), (nA, .inl (G.2 3, 30, .inl (bv nm))), (oA, .inl (G.2 0, 30, .inl (av dO))), (tA, .inl (G.2 0, 120, .inl (av (us (us (us tt (3 * i) fr) ((3 * i) + 1) (ec i)) ((3 * i) + 2) (la + 1))))), (aA, .inl (G.2 0, 30, .inl (av d))), (xA, .inl (G.2 0, 30, .inl (av x)))] := hD
            refine lv_iinc (v := (iz (i + 1))) (lv' := [(2, .int (iz (i + 1))), (0, .ref h), (1, .int (iz nr)), (3, .int (iz fr)), (4, .int (iz la))]) hX_ hB_ dX5_placeTurns_130 hl (k := 2) rfl (iz_add _ _) (by decide) rfl (fun ls hl => ?_)
            refine lv_goto (tgt := 2) hX_ hB_ dX5_placeTurns_133 (by decide) ?_
            exact ih_2 (i + 1) (us (us (us tt (3 * i) fr) ((3 * i) + 1) (ec i)) ((3 * i) + 2) (la + 1)) (by omega) (by intro j h1 h2; unfold us; by_cases e9 : j = i; (subst e9; rw [if_neg (by omega), if_neg (by omega), if_pos rfl, if_neg (by omega), if_pos rfl, if_pos rfl]; exact ⟨ef, rfl, by rw [el]⟩); (rw [if_neg (by omega), if_neg (by omega), if_neg (by omega), if_neg (by omega), if_neg (by omega), if_neg (by omega), if_neg (by omega), if_neg (by omega), if_neg (by omega)]; exact hg j h1 (by omega))) (by omega) _ _ hP hD hS ls (lv_sub hl [1, 2, 0] rfl)
          refine lv_iload_n hX_ hB_ dX5_placeTurns_57 rfl (lv_at hl 2 rfl) ?_
          refine zk_iconst hX_ hB_ dX5_placeTurns_58 ?_
          refine zk_iadd hX_ hB_ dX5_placeTurns_59 ?_
          refine lv_aload_n hX_ hB_ dX5_placeTurns_60 rfl (lv_at hl 0 rfl) ?_
          refine va_get (D := G.1) (ci := 3) (v := .int (iz size)) (C := RX5) (T := TX5) (N := 15) hX_ hB_ hts hi_X5_placeTurns_X5 hown hK.1 hP 0 rfl rfl 0 (by decide) (hts _ hw_X5_placeTurns_8f8c49) (fun _ h9 => h9) rfl dX5_placeTurns_61 ?_
          refine zk_icmp_ge (tgt := 91) hX_ hB_ (by omega) (by omega) dX5_placeTurns_64 (by decide) (fun c_64 => ?_) (fun c_64 => ?_)
          · skip
            exact join_91 ((ec i) + nr) (by unfold tL; rw [if_neg (by omega)]) _ _ hP hD hS ls (lv_sub hl [0, 1, 2, 3, 4] rfl)
          · skip
            have hen := he (i + 1) (by omega) (by omega)
            refine lv_iload hX_ hB_ dX5_placeTurns_67 (lv_at hl 4 rfl) ?_
            refine lv_aload_n hX_ hB_ dX5_placeTurns_69 rfl (lv_at hl 0 rfl) ?_
            refine va_get (D := G.1) (ci := 3) (v := .ref eA) (C := RX5) (T := TX5) (N := 15) hX_ hB_ hts hi_X5_placeTurns_X5 hown hK.1 hP 0 rfl rfl 4 (by decide) (hts _ hw_X5_placeTurns_33b0e1) (fun _ h9 => h9) rfl dX5_placeTurns_70 ?_
            refine lv_iload_n hX_ hB_ dX5_placeTurns_73 rfl (lv_at hl 2 rfl) ?_
            refine zk_iald hX_ hB_ hK.1 hP 1 0 rfl rfl (by omega) (by decide) dX5_placeTurns_74 ?_
            refine lv_aload_n hX_ hB_ dX5_placeTurns_75 rfl (lv_at hl 0 rfl) ?_
            refine va_get (D := G.1) (ci := 3) (v := .ref eA) (C := RX5) (T := TX5) (N := 15) hX_ hB_ hts hi_X5_placeTurns_X5 hown hK.1 hP 0 rfl rfl 4 (by decide) (hts _ hw_X5_placeTurns_33b0e1) (fun _ h9 => h9) rfl dX5_placeTurns_76 ?_
            refine lv_iload_n hX_ hB_ dX5_placeTurns_79 rfl (lv_at hl 2 rfl) ?_
            refine zk_iconst hX_ hB_ dX5_placeTurns_80 ?_
            refine zk_iadd hX_ hB_ dX5_placeTurns_81 ?_
            refine zk_iald hX_ hB_ hK.1 hP 1 0 rfl rfl (by omega) (by decide) dX5_placeTurns_82 ?_
            refine zk_iadd hX_ hB_ dX5_placeTurns_83 ?_
            refine zk_iconst hX_ hB_ dX5_placeTurns_84 ?_
            refine zk_idiv hX_ hB_ (by omega) (by omega) (by omega) (by omega) dX5_placeTurns_85 ?_
            refine zk_mmin hX_ hB_ (by rw [hml]; exact hl.1.symm) hown (hts _ hw_X5_placeTurns_0f3add) (hts _ hw_X5_placeTurns_79b26a) (hts _ hw_X5_placeTurns_868a92) (hts _ hw_X5_placeTurns_0fd793) (Nat.le_of_ble_eq_true rfl) (Nat.le_of_ble_eq_true rfl) (by decide) (by decide) (by omega) (by omega) dX5_placeTurns_86 ?_
            refine lv_istore (lv' := [(4, .int (iz (imin ((ec i) + nr) (((ec i) + (ec (i + 1))) / 2)))), (0, .ref h), (1, .int (iz nr)), (2, .int (iz i)), (3, .int (iz fr))]) hX_ hB_ dX5_placeTurns_89 hl (by decide) rfl (fun ls hl => ?_)
            exact join_91 (imin ((ec i) + nr) (((ec i) + (ec (i + 1))) / 2)) (by unfold tL; rw [if_pos (by omega)]) _ _ hP hD hS ls (lv_sub hl [1, 2, 3, 4, 0] rfl)
        refine lv_iload_n hX_ hB_ dX5_placeTurns_29 rfl (lv_at hl 4 rfl) ?_
        refine zk_if_le (tgt := 57) hX_ hB_ (by omega) dX5_placeTurns_30 (by decide) (fun c_30 => ?_) (fun c_30 => ?_)
        · skip
          exact join_57 ((ec i) - nr) (by unfold tF; rw [if_neg (by omega)]) _ _ hP hD hS ls (lv_sub hl [2, 3, 4, 1, 0] rfl)
        · skip
          have hem := he (i - 1) (by omega) (by omega)
          refine lv_iload_n hX_ hB_ dX5_placeTurns_33 rfl (lv_at hl 1 rfl) ?_
          refine lv_aload_n hX_ hB_ dX5_placeTurns_34 rfl (lv_at hl 2 rfl) ?_
          refine va_get (D := G.1) (ci := 3) (v := .ref eA) (C := RX5) (T := TX5) (N := 15) hX_ hB_ hts hi_X5_placeTurns_X5 hown hK.1 hP 0 rfl rfl 4 (by decide) (hts _ hw_X5_placeTurns_33b0e1) (fun _ h9 => h9) rfl dX5_placeTurns_35 ?_
          refine lv_iload_n hX_ hB_ dX5_placeTurns_38 rfl (lv_at hl 4 rfl) ?_
          refine zk_iconst hX_ hB_ dX5_placeTurns_39 ?_
          refine zk_isub hX_ hB_ dX5_placeTurns_40 ?_
          refine zk_iald hX_ hB_ hK.1 hP 1 0 rfl rfl (by omega) (by decide) dX5_placeTurns_41 ?_
          refine lv_aload_n hX_ hB_ dX5_placeTurns_42 rfl (lv_at hl 2 rfl) ?_
          refine va_get (D := G.1) (ci := 3) (v := .ref eA) (C := RX5) (T := TX5) (N := 15) hX_ hB_ hts hi_X5_placeTurns_X5 hown hK.1 hP 0 rfl rfl 4 (by decide) (hts _ hw_X5_placeTurns_33b0e1) (fun _ h9 => h9) rfl dX5_placeTurns_43 ?_
          refine lv_iload_n hX_ hB_ dX5_placeTurns_46 rfl (lv_at hl 4 rfl) ?_
          refine zk_iald hX_ hB_ hK.1 hP 1 0 rfl rfl (by omega) (by decide) dX5_placeTurns_47 ?_
          refine zk_iadd hX_ hB_ dX5_placeTurns_48 ?_
          refine zk_iconst hX_ hB_ dX5_placeTurns_49 ?_
          refine zk_idiv hX_ hB_ (by omega) (by omega) (by omega) (by omega) dX5_placeTurns_50 ?_
          refine zk_iconst hX_ hB_ dX5_placeTurns_51 ?_
          refine zk_iadd hX_ hB_ dX5_placeTurns_52 ?_
          refine zk_mmax hX_ hB_ (by rw [hml]; exact hl.1.symm) hown (hts _ hw_X5_placeTurns_23ff4a) (hts _ hw_X5_placeTurns_80a2ec) (hts _ hw_X5_placeTurns_868a92) (hts _ hw_X5_placeTurns_b6349a) (Nat.le_of_ble_eq_true rfl) (Nat.le_of_ble_eq_true rfl) (by decide) (by decide) (by omega) (by omega) dX5_placeTurns_53 ?_
          refine lv_istore_n (lv' := [(3, .int (iz (imax ((ec i) - nr) ((((ec (i - 1)) + (ec i)) / 2) + 1)))), (4, .int (iz ((ec i) + nr))), (0, .ref h), (1, .int (iz nr)), (2, .int (iz i))]) hX_ hB_ dX5_placeTurns_56 rfl hl (by decide) rfl (fun ls hl => ?_)
          exact join_57 (imax ((ec i) - nr) ((((ec (i - 1)) + (ec i)) / 2) + 1)) (by unfold tF; rw [if_pos (by omega)]) _ _ hP hD hS ls (lv_sub hl [2, 3, 4, 0, 1] rfl)
  exact loop_2 _ 0 t (by omega) (by intro j h1 h2; omega) (Nat.lt_succ_self _) _ _ hP hD hS ls (lv_sub hl [1, 2, 0] rfl)

theorem hw_X5_add_8f8c49 : (.fieldLink RX5 35 "StoneDates$Sky" "size" "I" : Cond) ∈ wsX5_add := by decide +kernel
theorem hi_X5_add_X5 : ∀ w ∈ u_ws RX5 TX5 15, w ∈ wsX5_add := by decide +kernel
theorem hw_X5_add_33b0e1 : (.fieldLink RX5 9 "StoneDates$Sky" "eclipses" "[I" : Cond) ∈ wsX5_add := by decide +kernel
theorem hw_X5_add_3d746f : (.methodLink RX5 38 arraycopyName : Cond) ∈ wsX5_add := by decide +kernel
theorem hw_X5_add_a648c8 : (.native arraycopyName : Cond) ∈ wsX5_add := by decide +kernel
theorem hw_X5_add_410d49 : (.static arraycopyName : Cond) ∈ wsX5_add := by decide +kernel
theorem hw_X5_add_4260ff : (.initialized "java/lang/System" : Cond) ∈ wsX5_add := by decide +kernel
theorem hw_X5_add_927464 : (.fieldLink RX5 31 "StoneDates$Sky" "solvedNear" "I" : Cond) ∈ wsX5_add := by decide +kernel
set_option maxHeartbeats 4000000 in
set_option maxRecDepth 100000 in
theorem c_X5_add (l : Launch) (G : GG) (h : Nat) (eA : Nat) (nA : Nat) (oA : Nat) (tA : Nat) (aA : Nat) (xA : Nat) (size : Int) (naming : Int) (bs : Int) (ba : Int) (sn : Int) (ag : Int) (sl : Int) (ht : Int) (bm : Int) (ec : Int → Int) (nm : Int → Bool) (dO : Int → Int) (t : Int → Int) (d : Int → Int) (x : Int → Int) (dy : Int) (hz : 0 ≤ size ∧ size ≤ 40) (hd0 : 0 ≤ dy ∧ dy ≤ 10000000) (he : ∀ i : Int, 0 ≤ i → i < size → 0 ≤ ec i ∧ ec i ≤ 10000000) (hso : srt ec size) : Ci l yX5_add wsX5_add ({ frames := 1, cells := 0, slots := 0, locals := 40 }) G E0 [.ref h, .int (iz dy)] [(h, .inr (3, [.int (iz size), .int (iz naming), .int (iz bs), .int (iz ba), .ref eA, .ref nA, .ref oA, .ref tA, .ref aA, .ref xA, .int (iz sn), .int (iz ag), .int (iz sl), .long (lz ht), .long (lz bm)])), (eA, .inl (G.2 0, 40, .inl (av ec))), (nA, .inl (G.2 3, 30, .inl (bv nm))), (oA, .inl (G.2 0, 30, .inl (av dO))), (tA, .inl (G.2 0, 120, .inl (av t))), (aA, .inl (G.2 0, 30, .inl (av d))), (xA, .inl (G.2 0, 30, .inl (av x)))] 0 0 (fun u : (Int → Int) × Int × Int => match u with | (ec2, size2, sn2) => [(h, .inr (3, [.int (iz size2), .int (iz naming), .int (iz bs), .int (iz ba), .ref eA, .ref nA, .ref oA, .ref tA, .ref aA, .ref xA, .int (iz sn2), .int (iz ag), .int (iz sl), .long (lz ht), .long (lz bm)])), (eA, .inl (G.2 0, 40, .inl (av ec2))), (nA, .inl (G.2 3, 30, .inl (bv nm))), (oA, .inl (G.2 0, 30, .inl (av dO))), (tA, .inl (G.2 0, 120, .inl (av t))), (aA, .inl (G.2 0, 30, .inl (av d))), (xA, .inl (G.2 0, 30, .inl (av x)))]) (fun (r : Int32) (u : (Int → Int) × Int × Int) => match u with | (ec2, size2, sn2) => (mem ec size dy ∧ r = iz (-1) ∧ ec2 = ec ∧ size2 = size ∧ sn2 = sn) ∨ (¬ mem ec size dy ∧ size = 40 ∧ r = iz (-2) ∧ ec2 = ec ∧ size2 = size ∧ sn2 = sn) ∨ (¬ mem ec size dy ∧ size < 40 ∧ r = iz (size + 1) ∧ size2 = size + 1 ∧ sn2 = -1 ∧ srt ec2 (size + 1) ∧ ∀ z : Int, mem ec2 (size + 1) z ↔ (z = dy ∨ mem ec size z))) := by
  refine Ci_intro (cc := cX5_add) (maxL := 4) (ret := (some .int)) (by decide) rfl (Nat.le_of_ble_eq_true rfl) ?_
  intro p e s m below meth c A F hA hP hD hK hE ls hl
  have hX_ := F.1
  have hB_ := F.2.1
  have hts := F.2.2.2.2.2.1
  have hown := F.2.2.2.2.1
  have hml := F.2.2.2.1
  have hS : va_S A s.heap s.heap [] := va_S.rf
  have hl : lv_has ls 4 [(0, .ref h), (1, .int (iz dy))] := hl
  refine lv_aload_n hX_ hB_ dX5_add_0 rfl (lv_at hl 0 rfl) ?_
  refine va_get (D := G.1) (ci := 3) (v := .int (iz size)) (C := RX5) (T := TX5) (N := 15) hX_ hB_ hts hi_X5_add_X5 hown hK.1 hP 0 rfl rfl 0 (by decide) (hts _ hw_X5_add_8f8c49) (fun _ h9 => h9) rfl dX5_add_1 ?_
  refine lv_istore_n (lv' := [(2, .int (iz size)), (0, .ref h), (1, .int (iz dy))]) hX_ hB_ dX5_add_4 rfl hl (by decide) rfl (fun ls hl => ?_)
  refine lv_aload_n hX_ hB_ dX5_add_5 rfl (lv_at hl 1 rfl) ?_
  refine va_get (D := G.1) (ci := 3) (v := .int (iz size)) (C := RX5) (T := TX5) (N := 15) hX_ hB_ hts hi_X5_add_X5 hown hK.1 hP 0 rfl rfl 0 (by decide) (hts _ hw_X5_add_8f8c49) (fun _ h9 => h9) rfl dX5_add_6 ?_
  refine zk_iconst hX_ hB_ dX5_add_9 ?_
  refine zk_isub hX_ hB_ dX5_add_10 ?_
  refine lv_istore_n (lv' := [(3, .int (iz (size - 1))), (2, .int (iz size)), (0, .ref h), (1, .int (iz dy))]) hX_ hB_ dX5_add_11 rfl hl (by decide) rfl (fun ls hl => ?_)
  have loop_12 : ∀ (n_12 : Nat), ∀ (i : Int) (q : Int), (-1 ≤ i ∧ i < size ∧ q = i + 1) → (∀ j : Int, q ≤ j → j < size → dy ≤ ec j) → ((i + 1).toNat < n_12) → ∀ (H : Heap) (locs : List Loc), va_P G.1 vwCl [(h, .inr (3, [.int (iz size), .int (iz naming), .int (iz bs), .int (iz ba), .ref eA, .ref nA, .ref oA, .ref tA, .ref aA, .ref xA, .int (iz sn), .int (iz ag), .int (iz sl), .long (lz ht), .long (lz bm)])), (eA, .inl (G.2 0, 40, .inl (av ec))), (nA, .inl (G.2 3, 30, .inl (bv nm))), (oA, .inl (G.2 0, 30, .inl (av dO))), (tA, .inl (G.2 0, 120, .inl (av t))), (aA, .inl (G.2 0, 30, .inl (av d))), (xA, .inl (G.2 0, 30, .inl (av x)))] H → va_D A [(h, .inr (3, [.int (iz size), .int (iz naming), .int (iz bs), .int (iz ba), .ref eA, .ref nA, .ref oA, .ref tA, .ref aA, .ref xA, .int (iz sn), .int (iz ag), .int (iz sl), .long (lz ht), .long (lz bm)])), (eA, .inl (G.2 0, 40, .inl (av ec))), (nA, .inl (G.2 3, 30, .inl (bv nm))), (oA, .inl (G.2 0, 30, .inl (av dO))), (tA, .inl (G.2 0, 120, .inl (av t))), (aA, .inl (G.2 0, 30, .inl (av d))), (xA, .inl (G.2 0, 30, .inl (av x)))] → va_S A s.heap H locs → ∀ ls : Array Slot, lv_has ls 4 [(0, .ref h), (1, .int (iz dy)), (2, .int (iz q)), (3, .int (iz i))] → W p l e ({ frames := 1, cells := 0, slots := 0, locals := 40 }) s m ([.ref h, .int (iz dy)] : List Value).toArray below meth c H locs 0 0 (MQ below (va_Qi (fun (r : Int32) (u : (Int → Int) × Int × Int) => match u with | (ec2, size2, sn2) => (mem ec size dy ∧ r = iz (-1) ∧ ec2 = ec ∧ size2 = size ∧ sn2 = sn) ∨ (¬ mem ec size dy ∧ size = 40 ∧ r = iz (-2) ∧ ec2 = ec ∧ size2 = size ∧ sn2 = sn) ∨ (¬ mem ec size dy ∧ size < 40 ∧ r = iz (size + 1) ∧ size2 = size + 1 ∧ sn2 = -1 ∧ srt ec2 (size + 1) ∧ ∀ z : Int, mem ec2 (size + 1) z ↔ (z = dy ∨ mem ec size z))) (fun u__ t__ => Pst G A ((fun u : (Int → Int) × Int × Int => match u with | (ec2, size2, sn2) => [(h, .inr (3, [.int (iz size2), .int (iz naming), .int (iz bs), .int (iz ba), .ref eA, .ref nA, .ref oA, .ref tA, .ref aA, .ref xA, .int (iz sn2), .int (iz ag), .int (iz sl), .long (lz ht), .long (lz bm)])), (eA, .inl (G.2 0, 40, .inl (av ec2))), (nA, .inl (G.2 3, 30, .inl (bv nm))), (oA, .inl (G.2 0, 30, .inl (av dO))), (tA, .inl (G.2 0, 120, .inl (av t))), (aA, .inl (G.2 0, 30, .inl (av d))), (xA, .inl (G.2 0, 30, .inl (av x)))]) u__) t__) A) ([.ref h, .int (iz dy)] : List Value).toArray s 0 0 A) (F0 m 12 ls []) := by
    intro n_12
    induction n_12 with
    | zero =>
      intro i q hi hhi hm H locs hP hD hS ls hl
      exact absurd hm (Nat.not_lt_zero _)
    | succ n_12 ih_12 =>
      intro i q hi hhi hm H locs hP hD hS ls hl
      have join_34 : (∀ j : Int, 0 ≤ j → j < q → ec j < dy) → ∀ (H : Heap) (locs : List Loc), va_P G.1 vwCl [(h, .inr (3, [.int (iz size), .int (iz naming), .int (iz bs), .int (iz ba), .ref eA, .ref nA, .ref oA, .ref tA, .ref aA, .ref xA, .int (iz sn), .int (iz ag), .int (iz sl), .long (lz ht), .long (lz bm)])), (eA, .inl (G.2 0, 40, .inl (av ec))), (nA, .inl (G.2 3, 30, .inl (bv nm))), (oA, .inl (G.2 0, 30, .inl (av dO))), (tA, .inl (G.2 0, 120, .inl (av t))), (aA, .inl (G.2 0, 30, .inl (av d))), (xA, .inl (G.2 0, 30, .inl (av x)))] H → va_D A [(h, .inr (3, [.int (iz size), .int (iz naming), .int (iz bs), .int (iz ba), .ref eA, .ref nA, .ref oA, .ref tA, .ref aA, .ref xA, .int (iz sn), .int (iz ag), .int (iz sl), .long (lz ht), .long (lz bm)])), (eA, .inl (G.2 0, 40, .inl (av ec))), (nA, .inl (G.2 3, 30, .inl (bv nm))), (oA, .inl (G.2 0, 30, .inl (av dO))), (tA, .inl (G.2 0, 120, .inl (av t))), (aA, .inl (G.2 0, 30, .inl (av d))), (xA, .inl (G.2 0, 30, .inl (av x)))] → va_S A s.heap H locs → ∀ ls : Array Slot, lv_has ls 4 [(0, .ref h), (1, .int (iz dy)), (2, .int (iz q)), (3, .int (iz i))] → W p l e ({ frames := 1, cells := 0, slots := 0, locals := 40 }) s m ([.ref h, .int (iz dy)] : List Value).toArray below meth c H locs 0 0 (MQ below (va_Qi (fun (r : Int32) (u : (Int → Int) × Int × Int) => match u with | (ec2, size2, sn2) => (mem ec size dy ∧ r = iz (-1) ∧ ec2 = ec ∧ size2 = size ∧ sn2 = sn) ∨ (¬ mem ec size dy ∧ size = 40 ∧ r = iz (-2) ∧ ec2 = ec ∧ size2 = size ∧ sn2 = sn) ∨ (¬ mem ec size dy ∧ size < 40 ∧ r = iz (size + 1) ∧ size2 = size + 1 ∧ sn2 = -1 ∧ srt ec2 (size + 1) ∧ ∀ z : Int, mem ec2 (size + 1) z ↔ (z = dy ∨ mem ec size z))) (fun u__ t__ => Pst G A ((fun u : (Int → Int) × Int × Int => match u with | (ec2, size2, sn2) => [(h, .inr (3, [.int (iz size2), .int (iz naming), .int (iz bs), .int (iz ba), .ref eA, .ref nA, .ref oA, .ref tA, .ref aA, .ref xA, .int (iz sn2), .int (iz ag), .int (iz sl), .long (lz ht), .long (lz bm)])), (eA, .inl (G.2 0, 40, .inl (av ec2))), (nA, .inl (G.2 3, 30, .inl (bv nm))), (oA, .inl (G.2 0, 30, .inl (av dO))), (tA, .inl (G.2 0, 120, .inl (av t))), (aA, .inl (G.2 0, 30, .inl (av d))), (xA, .inl (G.2 0, 30, .inl (av x)))]) u__) t__) A) ([.ref h, .int (iz dy)] : List Value).toArray s 0 0 A) (F0 m 34 ls []) := by
        intro  hlo H locs hP hD hS ls hl
        refine lv_iload_n hX_ hB_ dX5_add_34 rfl (lv_at hl 2 rfl) ?_
        refine lv_aload_n hX_ hB_ dX5_add_35 rfl (lv_at hl 0 rfl) ?_
        refine va_get (D := G.1) (ci := 3) (v := .int (iz size)) (C := RX5) (T := TX5) (N := 15) hX_ hB_ hts hi_X5_add_X5 hown hK.1 hP 0 rfl rfl 0 (by decide) (hts _ hw_X5_add_8f8c49) (fun _ h9 => h9) rfl dX5_add_36 ?_
        refine zk_icmp_ge (tgt := 54) hX_ hB_ (by omega) (by omega) dX5_add_39 (by decide) (fun c_39 => ?_) (fun c_39 => ?_)
        · skip
          refine lv_aload_n hX_ hB_ dX5_add_54 rfl (lv_at hl 0 rfl) ?_
          refine va_get (D := G.1) (ci := 3) (v := .int (iz size)) (C := RX5) (T := TX5) (N := 15) hX_ hB_ hts hi_X5_add_X5 hown hK.1 hP 0 rfl rfl 0 (by decide) (hts _ hw_X5_add_8f8c49) (fun _ h9 => h9) rfl dX5_add_55 ?_
          refine zk_bipush hX_ hB_ (by decide) dX5_add_58 ?_
          refine zk_icmp_lt (tgt := 66) hX_ hB_ (by omega) (by omega) dX5_add_60 (by decide) (fun c_60 => ?_) (fun c_60 => ?_)
          · skip
            refine lv_aload_n hX_ hB_ dX5_add_66 rfl (lv_at hl 0 rfl) ?_
            refine va_get (D := G.1) (ci := 3) (v := .ref eA) (C := RX5) (T := TX5) (N := 15) hX_ hB_ hts hi_X5_add_X5 hown hK.1 hP 0 rfl rfl 4 (by decide) (hts _ hw_X5_add_33b0e1) (fun _ h9 => h9) rfl dX5_add_67 ?_
            refine lv_iload_n hX_ hB_ dX5_add_70 rfl (lv_at hl 2 rfl) ?_
            refine lv_aload_n hX_ hB_ dX5_add_71 rfl (lv_at hl 0 rfl) ?_
            refine va_get (D := G.1) (ci := 3) (v := .ref eA) (C := RX5) (T := TX5) (N := 15) hX_ hB_ hts hi_X5_add_X5 hown hK.1 hP 0 rfl rfl 4 (by decide) (hts _ hw_X5_add_33b0e1) (fun _ h9 => h9) rfl dX5_add_72 ?_
            refine lv_iload_n hX_ hB_ dX5_add_75 rfl (lv_at hl 2 rfl) ?_
            refine zk_iconst hX_ hB_ dX5_add_76 ?_
            refine zk_iadd hX_ hB_ dX5_add_77 ?_
            refine lv_aload_n hX_ hB_ dX5_add_78 rfl (lv_at hl 0 rfl) ?_
            refine va_get (D := G.1) (ci := 3) (v := .int (iz size)) (C := RX5) (T := TX5) (N := 15) hX_ hB_ hts hi_X5_add_X5 hown hK.1 hP 0 rfl rfl 0 (by decide) (hts _ hw_X5_add_8f8c49) (fun _ h9 => h9) rfl dX5_add_79 ?_
            refine lv_iload_n hX_ hB_ dX5_add_82 rfl (lv_at hl 2 rfl) ?_
            refine zk_isub hX_ hB_ dX5_add_83 ?_
            refine zk_copy hX_ hB_ (by rw [hml]; exact hl.1.symm) hown (hts _ hw_X5_add_3d746f) (hts _ hw_X5_add_a648c8) (hts _ hw_X5_add_410d49) (hts _ hw_X5_add_4260ff) hK.1 hP hD hS 1 1 0 0 rfl rfl rfl rfl (by omega) (by omega) (by omega) (by omega) (by omega) (by decide) (by decide) (Nat.le_of_ble_eq_true rfl) (Nat.le_of_ble_eq_true rfl) dX5_add_84 (fun H locs hP hD hS => ?_)
            have hP : va_P G.1 vwCl [(h, .inr (3, [.int (iz size), .int (iz naming), .int (iz bs), .int (iz ba), .ref eA, .ref nA, .ref oA, .ref tA, .ref aA, .ref xA, .int (iz sn), .int (iz ag), .int (iz sl), .long (lz ht), .long (lz bm)])), (eA, .inl (G.2 0, 40, .inl (av (cpz ec ec q (q + 1) (size - q))))), (nA, .inl (G.2 3, 30, .inl (bv nm))), (oA, .inl (G.2 0, 30, .inl (av dO))), (tA, .inl (G.2 0, 120, .inl (av t))), (aA, .inl (G.2 0, 30, .inl (av d))), (xA, .inl (G.2 0, 30, .inl (av x)))] _ := hP
            have hD : va_D A [(h, .inr (3, [.int (iz size), .int (iz naming), .int (iz bs), .int (iz ba), .ref eA, .ref nA, .ref oA, .ref tA, .ref aA, .ref xA, .int (iz sn), .int (iz ag), .int (iz sl), .long (lz ht), .long (lz bm)])), (eA, .inl (G.2 0, 40, .inl (av (cpz ec ec q (q + 1) (size - q))))), (nA, .inl (G.2 3, 30, .inl (bv nm))), (oA, .inl (G.2 0, 30, .inl (av dO))), (tA, .inl (G.2 0, 120, .inl (av t))), (aA, .inl (G.2 0, 30, .inl (av d))), (xA, .inl (G.2 0, 30, .inl (av x)))] := hD
            refine lv_aload_n hX_ hB_ dX5_add_87 rfl (lv_at hl 0 rfl) ?_
            refine va_get (D := G.1) (ci := 3) (v := .ref eA) (C := RX5) (T := TX5) (N := 15) hX_ hB_ hts hi_X5_add_X5 hown hK.1 hP 0 rfl rfl 4 (by decide) (hts _ hw_X5_add_33b0e1) (fun _ h9 => h9) rfl dX5_add_88 ?_
            refine lv_iload_n hX_ hB_ dX5_add_91 rfl (lv_at hl 2 rfl) ?_
            refine lv_iload_n hX_ hB_ dX5_add_92 rfl (lv_at hl 1 rfl) ?_
            refine zk_iast hX_ hB_ hK.1 hP hD hS 1 0 rfl rfl (by omega) (by decide) dX5_add_93 (fun H locs hP hD hS => ?_)
            have hP : va_P G.1 vwCl [(h, .inr (3, [.int (iz size), .int (iz naming), .int (iz bs), .int (iz ba), .ref eA, .ref nA, .ref oA, .ref tA, .ref aA, .ref xA, .int (iz sn), .int (iz ag), .int (iz sl), .long (lz ht), .long (lz bm)])), (eA, .inl (G.2 0, 40, .inl (av (us (cpz ec ec q (q + 1) (size - q)) q dy)))), (nA, .inl (G.2 3, 30, .inl (bv nm))), (oA, .inl (G.2 0, 30, .inl (av dO))), (tA, .inl (G.2 0, 120, .inl (av t))), (aA, .inl (G.2 0, 30, .inl (av d))), (xA, .inl (G.2 0, 30, .inl (av x)))] _ := hP
            have hD : va_D A [(h, .inr (3, [.int (iz size), .int (iz naming), .int (iz bs), .int (iz ba), .ref eA, .ref nA, .ref oA, .ref tA, .ref aA, .ref xA, .int (iz sn), .int (iz ag), .int (iz sl), .long (lz ht), .long (lz bm)])), (eA, .inl (G.2 0, 40, .inl (av (us (cpz ec ec q (q + 1) (size - q)) q dy)))), (nA, .inl (G.2 3, 30, .inl (bv nm))), (oA, .inl (G.2 0, 30, .inl (av dO))), (tA, .inl (G.2 0, 120, .inl (av t))), (aA, .inl (G.2 0, 30, .inl (av d))), (xA, .inl (G.2 0, 30, .inl (av x)))] := hD
            refine lv_aload_n hX_ hB_ dX5_add_94 rfl (lv_at hl 0 rfl) ?_
            refine lv_dup hX_ hB_ dX5_add_95 rfl ?_
            refine va_get (D := G.1) (ci := 3) (v := .int (iz size)) (C := RX5) (T := TX5) (N := 15) hX_ hB_ hts hi_X5_add_X5 hown hK.1 hP 0 rfl rfl 0 (by decide) (hts _ hw_X5_add_8f8c49) (fun _ h9 => h9) rfl dX5_add_96 ?_
            refine zk_iconst hX_ hB_ dX5_add_99 ?_
            refine zk_iadd hX_ hB_ dX5_add_100 ?_
            refine va_put (D := G.1) (ci := 3) (v := .int (iz (size + 1))) (ty := .int) (C := RX5) (T := TX5) (N := 15) hX_ hB_ hts hi_X5_add_X5 tyX5 tyX5_ok nmX5 hown hK.1 hP hD hS 0 rfl rfl 0 (by decide) (hts _ hw_X5_add_8f8c49) (fun _ h9 => h9) rfl (by decide +kernel) rfl rfl (Nat.le_of_ble_eq_true rfl) dX5_add_101 (fun H locs hP hD hS => ?_)
            have hP : va_P G.1 vwCl [(h, .inr (3, [.int (iz (size + 1)), .int (iz naming), .int (iz bs), .int (iz ba), .ref eA, .ref nA, .ref oA, .ref tA, .ref aA, .ref xA, .int (iz sn), .int (iz ag), .int (iz sl), .long (lz ht), .long (lz bm)])), (eA, .inl (G.2 0, 40, .inl (av (us (cpz ec ec q (q + 1) (size - q)) q dy)))), (nA, .inl (G.2 3, 30, .inl (bv nm))), (oA, .inl (G.2 0, 30, .inl (av dO))), (tA, .inl (G.2 0, 120, .inl (av t))), (aA, .inl (G.2 0, 30, .inl (av d))), (xA, .inl (G.2 0, 30, .inl (av x)))] _ := hP
            have hD : va_D A [(h, .inr (3, [.int (iz (size + 1)), .int (iz naming), .int (iz bs), .int (iz ba), .ref eA, .ref nA, .ref oA, .ref tA, .ref aA, .ref xA, .int (iz sn), .int (iz ag), .int (iz sl), .long (lz ht), .long (lz bm)])), (eA, .inl (G.2 0, 40, .inl (av (us (cpz ec ec q (q + 1) (size - q)) q dy)))), (nA, .inl (G.2 3, 30, .inl (bv nm))), (oA, .inl (G.2 0, 30, .inl (av dO))), (tA, .inl (G.2 0, 120, .inl (av t))), (aA, .inl (G.2 0, 30, .inl (av d))), (xA, .inl (G.2 0, 30, .inl (av x)))] := hD
            refine lv_aload_n hX_ hB_ dX5_add_104 rfl (lv_at hl 0 rfl) ?_
            refine zk_iconst hX_ hB_ dX5_add_105 ?_
            refine va_put (D := G.1) (ci := 3) (v := .int (iz (-1))) (ty := .int) (C := RX5) (T := TX5) (N := 15) hX_ hB_ hts hi_X5_add_X5 tyX5 tyX5_ok nmX5 hown hK.1 hP hD hS 0 rfl rfl 10 (by decide) (hts _ hw_X5_add_927464) (fun _ h9 => h9) rfl (by decide +kernel) rfl rfl (Nat.le_of_ble_eq_true rfl) dX5_add_106 (fun H locs hP hD hS => ?_)
            have hP : va_P G.1 vwCl [(h, .inr (3, [.int (iz (size + 1)), .int (iz naming), .int (iz bs), .int (iz ba), .ref eA, .ref nA, .ref oA, .ref tA, .ref aA, .ref xA, .int (iz (-1)), .int (iz ag), .int (iz sl), .long (lz ht), .long (lz bm)])), (eA, .inl (G.2 0, 40, .inl (av (us (cpz ec ec q (q + 1) (size - q)) q dy)))), (nA, .inl (G.2 3, 30, .inl (bv nm))), (oA, .inl (G.2 0, 30, .inl (av dO))), (tA, .inl (G.2 0, 120, .inl (av t))), (aA, .inl (G.2 0, 30, .inl (av d))), (xA, .inl (G.2 0, 30, .inl (av x)))] _ := hP
            have hD : va_D A [(h, .inr (3, [.int (iz (size + 1)), .int (iz naming), .int (iz bs), .int (iz ba), .ref eA, .ref nA, .ref oA, .ref tA, .ref aA, .ref xA, .int (iz (-1)), .int (iz ag), .int (iz sl), .long (lz ht), .long (lz bm)])), (eA, .inl (G.2 0, 40, .inl (av (us (cpz ec ec q (q + 1) (size - q)) q dy)))), (nA, .inl (G.2 3, 30, .inl (bv nm))), (oA, .inl (G.2 0, 30, .inl (av dO))), (tA, .inl (G.2 0, 120, .inl (av t))), (aA, .inl (G.2 0, 30, .inl (av d))), (xA, .inl (G.2 0, 30, .inl (av x)))] := hD
            refine lv_aload_n hX_ hB_ dX5_add_109 rfl (lv_at hl 0 rfl) ?_
            refine va_get (D := G.1) (ci := 3) (v := .int (iz (size + 1))) (C := RX5) (T := TX5) (N := 15) hX_ hB_ hts hi_X5_add_X5 hown hK.1 hP 0 rfl rfl 0 (by decide) (hts _ hw_X5_add_8f8c49) (fun _ h9 => h9) rfl dX5_add_110 ?_
            have hno : ¬ mem ec size dy := by rintro ⟨j, j0, j1, rfl⟩; by_cases e9 : j < q; (have := hlo j j0 e9; omega); (have := hhi j (by omega) j1; rcases Int.lt_or_eq_of_le this with u1 | u1; (by_cases e8 : j = q; (subst e8; omega); (have := hso q j (by omega) (by omega) j1; have := hhi q (by omega) (by omega); omega)); (by_cases e8 : j = q; (subst e8; omega); (have := hso q j (by omega) (by omega) j1; have := hhi q (by omega) (by omega); omega)))
            have hins := ins_srt (z := dy) hso (q := q) (by omega) hlo (fun j h1 h2 => by rcases Int.lt_or_eq_of_le (hhi j h1 h2) with u1 | u1; exact u1; exact absurd ⟨j, by omega, h2, u1.symm⟩ hno)
            exact fin_i (wf := (fun u : (Int → Int) × Int × Int => match u with | (ec2, size2, sn2) => [(h, .inr (3, [.int (iz size2), .int (iz naming), .int (iz bs), .int (iz ba), .ref eA, .ref nA, .ref oA, .ref tA, .ref aA, .ref xA, .int (iz sn2), .int (iz ag), .int (iz sl), .long (lz ht), .long (lz bm)])), (eA, .inl (G.2 0, 40, .inl (av ec2))), (nA, .inl (G.2 3, 30, .inl (bv nm))), (oA, .inl (G.2 0, 30, .inl (av dO))), (tA, .inl (G.2 0, 120, .inl (av t))), (aA, .inl (G.2 0, 30, .inl (av d))), (xA, .inl (G.2 0, 30, .inl (av x)))])) (us (cpz ec ec q (q + 1) (size - q)) q dy, size + 1, -1) F rfl hP hD hK hS (by decide) (by decide) dX5_add_113 (by exact Or.inr (Or.inr ⟨hno, by omega, rfl, rfl, rfl, hins.1, hins.2⟩))
          · skip
            refine zk_bipush hX_ hB_ (by decide) dX5_add_63 ?_
            have hno : ¬ mem ec size dy := by rintro ⟨j, j0, j1, rfl⟩; by_cases e9 : j < q; (have := hlo j j0 e9; omega); (have := hhi j (by omega) j1; rcases Int.lt_or_eq_of_le this with u1 | u1; (by_cases e8 : j = q; (subst e8; omega); (have := hso q j (by omega) (by omega) j1; have := hhi q (by omega) (by omega); omega)); (by_cases e8 : j = q; (subst e8; omega); (have := hso q j (by omega) (by omega) j1; have := hhi q (by omega) (by omega); omega)))
            exact fin_i (wf := (fun u : (Int → Int) × Int × Int => match u with | (ec2, size2, sn2) => [(h, .inr (3, [.int (iz size2), .int (iz naming), .int (iz bs), .int (iz ba), .ref eA, .ref nA, .ref oA, .ref tA, .ref aA, .ref xA, .int (iz sn2), .int (iz ag), .int (iz sl), .long (lz ht), .long (lz bm)])), (eA, .inl (G.2 0, 40, .inl (av ec2))), (nA, .inl (G.2 3, 30, .inl (bv nm))), (oA, .inl (G.2 0, 30, .inl (av dO))), (tA, .inl (G.2 0, 120, .inl (av t))), (aA, .inl (G.2 0, 30, .inl (av d))), (xA, .inl (G.2 0, 30, .inl (av x)))])) (ec, size, sn) F rfl hP hD hK hS (by decide) (by decide) dX5_add_65 (by exact Or.inr (Or.inl ⟨hno, by omega, rfl, rfl, rfl, rfl⟩))
        · skip
          have heq := he q (by omega) (by omega)
          refine lv_aload_n hX_ hB_ dX5_add_42 rfl (lv_at hl 0 rfl) ?_
          refine va_get (D := G.1) (ci := 3) (v := .ref eA) (C := RX5) (T := TX5) (N := 15) hX_ hB_ hts hi_X5_add_X5 hown hK.1 hP 0 rfl rfl 4 (by decide) (hts _ hw_X5_add_33b0e1) (fun _ h9 => h9) rfl dX5_add_43 ?_
          refine lv_iload_n hX_ hB_ dX5_add_46 rfl (lv_at hl 2 rfl) ?_
          refine zk_iald hX_ hB_ hK.1 hP 1 0 rfl rfl (by omega) (by decide) dX5_add_47 ?_
          refine lv_iload_n hX_ hB_ dX5_add_48 rfl (lv_at hl 1 rfl) ?_
          refine zk_icmp_ne (tgt := 54) hX_ hB_ (by omega) (by omega) dX5_add_49 (by decide) (fun c_49 => ?_) (fun c_49 => ?_)
          · skip
            refine lv_aload_n hX_ hB_ dX5_add_54 rfl (lv_at hl 0 rfl) ?_
            refine va_get (D := G.1) (ci := 3) (v := .int (iz size)) (C := RX5) (T := TX5) (N := 15) hX_ hB_ hts hi_X5_add_X5 hown hK.1 hP 0 rfl rfl 0 (by decide) (hts _ hw_X5_add_8f8c49) (fun _ h9 => h9) rfl dX5_add_55 ?_
            refine zk_bipush hX_ hB_ (by decide) dX5_add_58 ?_
            refine zk_icmp_lt (tgt := 66) hX_ hB_ (by omega) (by omega) dX5_add_60 (by decide) (fun c_60 => ?_) (fun c_60 => ?_)
            · skip
              refine lv_aload_n hX_ hB_ dX5_add_66 rfl (lv_at hl 0 rfl) ?_
              refine va_get (D := G.1) (ci := 3) (v := .ref eA) (C := RX5) (T := TX5) (N := 15) hX_ hB_ hts hi_X5_add_X5 hown hK.1 hP 0 rfl rfl 4 (by decide) (hts _ hw_X5_add_33b0e1) (fun _ h9 => h9) rfl dX5_add_67 ?_
              refine lv_iload_n hX_ hB_ dX5_add_70 rfl (lv_at hl 2 rfl) ?_
              refine lv_aload_n hX_ hB_ dX5_add_71 rfl (lv_at hl 0 rfl) ?_
              refine va_get (D := G.1) (ci := 3) (v := .ref eA) (C := RX5) (T := TX5) (N := 15) hX_ hB_ hts hi_X5_add_X5 hown hK.1 hP 0 rfl rfl 4 (by decide) (hts _ hw_X5_add_33b0e1) (fun _ h9 => h9) rfl dX5_add_72 ?_
              refine lv_iload_n hX_ hB_ dX5_add_75 rfl (lv_at hl 2 rfl) ?_
              refine zk_iconst hX_ hB_ dX5_add_76 ?_
              refine zk_iadd hX_ hB_ dX5_add_77 ?_
              refine lv_aload_n hX_ hB_ dX5_add_78 rfl (lv_at hl 0 rfl) ?_
              refine va_get (D := G.1) (ci := 3) (v := .int (iz size)) (C := RX5) (T := TX5) (N := 15) hX_ hB_ hts hi_X5_add_X5 hown hK.1 hP 0 rfl rfl 0 (by decide) (hts _ hw_X5_add_8f8c49) (fun _ h9 => h9) rfl dX5_add_79 ?_
              refine lv_iload_n hX_ hB_ dX5_add_82 rfl (lv_at hl 2 rfl) ?_
              refine zk_isub hX_ hB_ dX5_add_83 ?_
              refine zk_copy hX_ hB_ (by rw [hml]; exact hl.1.symm) hown (hts _ hw_X5_add_3d746f) (hts _ hw_X5_add_a648c8) (hts _ hw_X5_add_410d49) (hts _ hw_X5_add_4260ff) hK.1 hP hD hS 1 1 0 0 rfl rfl rfl rfl (by omega) (by omega) (by omega) (by omega) (by omega) (by decide) (by decide) (Nat.le_of_ble_eq_true rfl) (Nat.le_of_ble_eq_true rfl) dX5_add_84 (fun H locs hP hD hS => ?_)
              have hP : va_P G.1 vwCl [(h, .inr (3, [.int (iz size), .int (iz naming), .int (iz bs), .int (iz ba), .ref eA, .ref nA, .ref oA, .ref tA, .ref aA, .ref xA, .int (iz sn), .int (iz ag), .int (iz sl), .long (lz ht), .long (lz bm)])), (eA, .inl (G.2 0, 40, .inl (av (cpz ec ec q (q + 1) (size - q))))), (nA, .inl (G.2 3, 30, .inl (bv nm))), (oA, .inl (G.2 0, 30, .inl (av dO))), (tA, .inl (G.2 0, 120, .inl (av t))), (aA, .inl (G.2 0, 30, .inl (av d))), (xA, .inl (G.2 0, 30, .inl (av x)))] _ := hP
              have hD : va_D A [(h, .inr (3, [.int (iz size), .int (iz naming), .int (iz bs), .int (iz ba), .ref eA, .ref nA, .ref oA, .ref tA, .ref aA, .ref xA, .int (iz sn), .int (iz ag), .int (iz sl), .long (lz ht), .long (lz bm)])), (eA, .inl (G.2 0, 40, .inl (av (cpz ec ec q (q + 1) (size - q))))), (nA, .inl (G.2 3, 30, .inl (bv nm))), (oA, .inl (G.2 0, 30, .inl (av dO))), (tA, .inl (G.2 0, 120, .inl (av t))), (aA, .inl (G.2 0, 30, .inl (av d))), (xA, .inl (G.2 0, 30, .inl (av x)))] := hD
              refine lv_aload_n hX_ hB_ dX5_add_87 rfl (lv_at hl 0 rfl) ?_
              refine va_get (D := G.1) (ci := 3) (v := .ref eA) (C := RX5) (T := TX5) (N := 15) hX_ hB_ hts hi_X5_add_X5 hown hK.1 hP 0 rfl rfl 4 (by decide) (hts _ hw_X5_add_33b0e1) (fun _ h9 => h9) rfl dX5_add_88 ?_
              refine lv_iload_n hX_ hB_ dX5_add_91 rfl (lv_at hl 2 rfl) ?_
              refine lv_iload_n hX_ hB_ dX5_add_92 rfl (lv_at hl 1 rfl) ?_
              refine zk_iast hX_ hB_ hK.1 hP hD hS 1 0 rfl rfl (by omega) (by decide) dX5_add_93 (fun H locs hP hD hS => ?_)
              have hP : va_P G.1 vwCl [(h, .inr (3, [.int (iz size), .int (iz naming), .int (iz bs), .int (iz ba), .ref eA, .ref nA, .ref oA, .ref tA, .ref aA, .ref xA, .int (iz sn), .int (iz ag), .int (iz sl), .long (lz ht), .long (lz bm)])), (eA, .inl (G.2 0, 40, .inl (av (us (cpz ec ec q (q + 1) (size - q)) q dy)))), (nA, .inl (G.2 3, 30, .inl (bv nm))), (oA, .inl (G.2 0, 30, .inl (av dO))), (tA, .inl (G.2 0, 120, .inl (av t))), (aA, .inl (G.2 0, 30, .inl (av d))), (xA, .inl (G.2 0, 30, .inl (av x)))] _ := hP
              have hD : va_D A [(h, .inr (3, [.int (iz size), .int (iz naming), .int (iz bs), .int (iz ba), .ref eA, .ref nA, .ref oA, .ref tA, .ref aA, .ref xA, .int (iz sn), .int (iz ag), .int (iz sl), .long (lz ht), .long (lz bm)])), (eA, .inl (G.2 0, 40, .inl (av (us (cpz ec ec q (q + 1) (size - q)) q dy)))), (nA, .inl (G.2 3, 30, .inl (bv nm))), (oA, .inl (G.2 0, 30, .inl (av dO))), (tA, .inl (G.2 0, 120, .inl (av t))), (aA, .inl (G.2 0, 30, .inl (av d))), (xA, .inl (G.2 0, 30, .inl (av x)))] := hD
              refine lv_aload_n hX_ hB_ dX5_add_94 rfl (lv_at hl 0 rfl) ?_
              refine lv_dup hX_ hB_ dX5_add_95 rfl ?_
              refine va_get (D := G.1) (ci := 3) (v := .int (iz size)) (C := RX5) (T := TX5) (N := 15) hX_ hB_ hts hi_X5_add_X5 hown hK.1 hP 0 rfl rfl 0 (by decide) (hts _ hw_X5_add_8f8c49) (fun _ h9 => h9) rfl dX5_add_96 ?_
              refine zk_iconst hX_ hB_ dX5_add_99 ?_
              refine zk_iadd hX_ hB_ dX5_add_100 ?_
              refine va_put (D := G.1) (ci := 3) (v := .int (iz (size + 1))) (ty := .int) (C := RX5) (T := TX5) (N := 15) hX_ hB_ hts hi_X5_add_X5 tyX5 tyX5_ok nmX5 hown hK.1 hP hD hS 0 rfl rfl 0 (by decide) (hts _ hw_X5_add_8f8c49) (fun _ h9 => h9) rfl (by decide +kernel) rfl rfl (Nat.le_of_ble_eq_true rfl) dX5_add_101 (fun H locs hP hD hS => ?_)
              have hP : va_P G.1 vwCl [(h, .inr (3, [.int (iz (size + 1)), .int (iz naming), .int (iz bs), .int (iz ba), .ref eA, .ref nA, .ref oA, .ref tA, .ref aA, .ref xA, .int (iz sn), .int (iz ag), .int (iz sl), .long (lz ht), .long (lz bm)])), (eA, .inl (G.2 0, 40, .inl (av (us (cpz ec ec q (q + 1) (size - q)) q dy)))), (nA, .inl (G.2 3, 30, .inl (bv nm))), (oA, .inl (G.2 0, 30, .inl (av dO))), (tA, .inl (G.2 0, 120, .inl (av t))), (aA, .inl (G.2 0, 30, .inl (av d))), (xA, .inl (G.2 0, 30, .inl (av x)))] _ := hP
              have hD : va_D A [(h, .inr (3, [.int (iz (size + 1)), .int (iz naming), .int (iz bs), .int (iz ba), .ref eA, .ref nA, .ref oA, .ref tA, .ref aA, .ref xA, .int (iz sn), .int (iz ag), .int (iz sl), .long (lz ht), .long (lz bm)])), (eA, .inl (G.2 0, 40, .inl (av (us (cpz ec ec q (q + 1) (size - q)) q dy)))), (nA, .inl (G.2 3, 30, .inl (bv nm))), (oA, .inl (G.2 0, 30, .inl (av dO))), (tA, .inl (G.2 0, 120, .inl (av t))), (aA, .inl (G.2 0, 30, .inl (av d))), (xA, .inl (G.2 0, 30, .inl (av x)))] := hD
              refine lv_aload_n hX_ hB_ dX5_add_104 rfl (lv_at hl 0 rfl) ?_
              refine zk_iconst hX_ hB_ dX5_add_105 ?_
              refine va_put (D := G.1) (ci := 3) (v := .int (iz (-1))) (ty := .int) (C := RX5) (T := TX5) (N := 15) hX_ hB_ hts hi_X5_add_X5 tyX5 tyX5_ok nmX5 hown hK.1 hP hD hS 0 rfl rfl 10 (by decide) (hts _ hw_X5_add_927464) (fun _ h9 => h9) rfl (by decide +kernel) rfl rfl (Nat.le_of_ble_eq_true rfl) dX5_add_106 (fun H locs hP hD hS => ?_)
              have hP : va_P G.1 vwCl [(h, .inr (3, [.int (iz (size + 1)), .int (iz naming), .int (iz bs), .int (iz ba), .ref eA, .ref nA, .ref oA, .ref tA, .ref aA, .ref xA, .int (iz (-1)), .int (iz ag), .int (iz sl), .long (lz ht), .long (lz bm)])), (eA, .inl (G.2 0, 40, .inl (av (us (cpz ec ec q (q + 1) (size - q)) q dy)))), (nA, .inl (G.2 3, 30, .inl (bv nm))), (oA, .inl (G.2 0, 30, .inl (av dO))), (tA, .inl (G.2 0, 120, .inl (av t))), (aA, .inl (G.2 0, 30, .inl (av d))), (xA, .inl (G.2 0, 30, .inl (av x)))] _ := hP
              have hD : va_D A [(h, .inr (3, [.int (iz (size + 1)), .int (iz naming), .int (iz bs), .int (iz ba), .ref eA, .ref nA, .ref oA, .ref tA, .ref aA, .ref xA, .int (iz (-1)), .int (iz ag), .int (iz sl), .long (lz ht), .long (lz bm)])), (eA, .inl (G.2 0, 40, .inl (av (us (cpz ec ec q (q + 1) (size - q)) q dy)))), (nA, .inl (G.2 3, 30, .inl (bv nm))), (oA, .inl (G.2 0, 30, .inl (av dO))), (tA, .inl (G.2 0, 120, .inl (av t))), (aA, .inl (G.2 0, 30, .inl (av d))), (xA, .inl (G.2 0, 30, .inl (av x)))] := hD
              refine lv_aload_n hX_ hB_ dX5_add_109 rfl (lv_at hl 0 rfl) ?_
              refine va_get (D := G.1) (ci := 3) (v := .int (iz (size + 1))) (C := RX5) (T := TX5) (N := 15) hX_ hB_ hts hi_X5_add_X5 hown hK.1 hP 0 rfl rfl 0 (by decide) (hts _ hw_X5_add_8f8c49) (fun _ h9 => h9) rfl dX5_add_110 ?_
              have hno : ¬ mem ec size dy := by rintro ⟨j, j0, j1, rfl⟩; by_cases e9 : j < q; (have := hlo j j0 e9; omega); (have := hhi j (by omega) j1; rcases Int.lt_or_eq_of_le this with u1 | u1; (by_cases e8 : j = q; (subst e8; omega); (have := hso q j (by omega) (by omega) j1; have := hhi q (by omega) (by omega); omega)); (by_cases e8 : j = q; (subst e8; omega); (have := hso q j (by omega) (by omega) j1; have := hhi q (by omega) (by omega); omega)))
              have hins := ins_srt (z := dy) hso (q := q) (by omega) hlo (fun j h1 h2 => by rcases Int.lt_or_eq_of_le (hhi j h1 h2) with u1 | u1; exact u1; exact absurd ⟨j, by omega, h2, u1.symm⟩ hno)
              exact fin_i (wf := (fun u : (Int → Int) × Int × Int => match u with | (ec2, size2, sn2) => [(h, .inr (3, [.int (iz size2), .int (iz naming), .int (iz bs), .int (iz ba), .ref eA, .ref nA, .ref oA, .ref tA, .ref aA, .ref xA, .int (iz sn2), .int (iz ag), .int (iz sl), .long (lz ht), .long (lz bm)])), (eA, .inl (G.2 0, 40, .inl (av ec2))), (nA, .inl (G.2 3, 30, .inl (bv nm))), (oA, .inl (G.2 0, 30, .inl (av dO))), (tA, .inl (G.2 0, 120, .inl (av t))), (aA, .inl (G.2 0, 30, .inl (av d))), (xA, .inl (G.2 0, 30, .inl (av x)))])) (us (cpz ec ec q (q + 1) (size - q)) q dy, size + 1, -1) F rfl hP hD hK hS (by decide) (by decide) dX5_add_113 (by exact Or.inr (Or.inr ⟨hno, by omega, rfl, rfl, rfl, hins.1, hins.2⟩))
            · skip
              refine zk_bipush hX_ hB_ (by decide) dX5_add_63 ?_
              have hno : ¬ mem ec size dy := by rintro ⟨j, j0, j1, rfl⟩; by_cases e9 : j < q; (have := hlo j j0 e9; omega); (have := hhi j (by omega) j1; rcases Int.lt_or_eq_of_le this with u1 | u1; (by_cases e8 : j = q; (subst e8; omega); (have := hso q j (by omega) (by omega) j1; have := hhi q (by omega) (by omega); omega)); (by_cases e8 : j = q; (subst e8; omega); (have := hso q j (by omega) (by omega) j1; have := hhi q (by omega) (by omega); omega)))
              exact fin_i (wf := (fun u : (Int → Int) × Int × Int => match u with | (ec2, size2, sn2) => [(h, .inr (3, [.int (iz size2), .int (iz naming), .int (iz bs), .int (iz ba), .ref eA, .ref nA, .ref oA, .ref tA, .ref aA, .ref xA, .int (iz sn2), .int (iz ag), .int (iz sl), .long (lz ht), .long (lz bm)])), (eA, .inl (G.2 0, 40, .inl (av ec2))), (nA, .inl (G.2 3, 30, .inl (bv nm))), (oA, .inl (G.2 0, 30, .inl (av dO))), (tA, .inl (G.2 0, 120, .inl (av t))), (aA, .inl (G.2 0, 30, .inl (av d))), (xA, .inl (G.2 0, 30, .inl (av x)))])) (ec, size, sn) F rfl hP hD hK hS (by decide) (by decide) dX5_add_65 (by exact Or.inr (Or.inl ⟨hno, by omega, rfl, rfl, rfl, rfl⟩))
          · skip
            refine zk_iconst hX_ hB_ dX5_add_52 ?_
            exact fin_i (wf := (fun u : (Int → Int) × Int × Int => match u with | (ec2, size2, sn2) => [(h, .inr (3, [.int (iz size2), .int (iz naming), .int (iz bs), .int (iz ba), .ref eA, .ref nA, .ref oA, .ref tA, .ref aA, .ref xA, .int (iz sn2), .int (iz ag), .int (iz sl), .long (lz ht), .long (lz bm)])), (eA, .inl (G.2 0, 40, .inl (av ec2))), (nA, .inl (G.2 3, 30, .inl (bv nm))), (oA, .inl (G.2 0, 30, .inl (av dO))), (tA, .inl (G.2 0, 120, .inl (av t))), (aA, .inl (G.2 0, 30, .inl (av d))), (xA, .inl (G.2 0, 30, .inl (av x)))])) (ec, size, sn) F rfl hP hD hK hS (by decide) (by decide) dX5_add_53 (by exact Or.inl ⟨⟨q, by omega, by omega, c_49⟩, rfl, rfl, rfl, rfl⟩)
      refine lv_iload_n hX_ hB_ dX5_add_12 rfl (lv_at hl 3 rfl) ?_
      refine zk_if_lt (tgt := 34) hX_ hB_ (by omega) dX5_add_13 (by decide) (fun c_13 => ?_) (fun c_13 => ?_)
      · skip
        exact join_34  (by intro j h1 h2; omega) _ _ hP hD hS ls (lv_sub hl [0, 1, 2, 3] rfl)
      · skip
        have hei := he i (by omega) (by omega)
        refine lv_aload_n hX_ hB_ dX5_add_16 rfl (lv_at hl 0 rfl) ?_
        refine va_get (D := G.1) (ci := 3) (v := .ref eA) (C := RX5) (T := TX5) (N := 15) hX_ hB_ hts hi_X5_add_X5 hown hK.1 hP 0 rfl rfl 4 (by decide) (hts _ hw_X5_add_33b0e1) (fun _ h9 => h9) rfl dX5_add_17 ?_
        refine lv_iload_n hX_ hB_ dX5_add_20 rfl (lv_at hl 3 rfl) ?_
        refine zk_iald hX_ hB_ hK.1 hP 1 0 rfl rfl (by omega) (by decide) dX5_add_21 ?_
        refine lv_iload_n hX_ hB_ dX5_add_22 rfl (lv_at hl 1 rfl) ?_
        refine zk_icmp_lt (tgt := 34) hX_ hB_ (by omega) (by omega) dX5_add_23 (by decide) (fun c_23 => ?_) (fun c_23 => ?_)
        · skip
          exact join_34  (by intro j h1 h2; by_cases e9 : j = i; (rw [e9]; exact c_23); (have := hso j i h1 (by omega) (by omega); omega)) _ _ hP hD hS ls (lv_sub hl [0, 1, 2, 3] rfl)
        · skip
          refine lv_iload_n hX_ hB_ dX5_add_26 rfl (lv_at hl 3 rfl) ?_
          refine lv_istore_n (lv' := [(2, .int (iz i)), (0, .ref h), (1, .int (iz dy)), (3, .int (iz i))]) hX_ hB_ dX5_add_27 rfl hl (by decide) rfl (fun ls hl => ?_)
          refine lv_iinc (v := (iz (i - 1))) (lv' := [(3, .int (iz (i - 1))), (2, .int (iz i)), (0, .ref h), (1, .int (iz dy))]) hX_ hB_ dX5_add_28 hl (k := 3) rfl ((iz_add _ _).trans (congrArg iz (by omega))) (by decide) rfl (fun ls hl => ?_)
          refine lv_goto (tgt := 12) hX_ hB_ dX5_add_31 (by decide) ?_
          exact ih_12 (i - 1) i (by omega) (by intro j h1 h2; by_cases e9 : j = i; (rw [e9]; exact c_23); exact hhi j (by omega) h2) (by omega) _ _ hP hD hS ls (lv_sub hl [2, 3, 1, 0] rfl)
  exact loop_12 _ (size - 1) size (by omega) (by intro j h1 h2; omega) (Nat.lt_succ_self _) _ _ hP hD hS ls (lv_sub hl [2, 3, 1, 0] rfl)
