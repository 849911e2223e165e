theorem mul_bd {a b A B : Int} (h0 : 0 ≤ a) (h1 : a ≤ A) (h2 : 0 ≤ b) (h3 : b ≤ B) : 0 ≤ a * b ∧ a * b ≤ A * B :=
  ⟨Int.mul_nonneg h0 h2, Int.mul_le_mul h1 h3 h2 (by omega)⟩
theorem mul_ab {a b A B : Int} (h0 : -A ≤ a) (h1 : a ≤ A) (h2 : -B ≤ b) (h3 : b ≤ B) (hA : 0 ≤ A) (hB : 0 ≤ B) : -(A * B) ≤ a * b ∧ a * b ≤ A * B := by
  rcases Int.le_total 0 a with ha | ha <;> rcases Int.le_total 0 b with hb | hb
  · have := mul_bd ha h1 hb h3
    omega
  · have := mul_bd ha h1 (show 0 ≤ -b by omega) (show -b ≤ B by omega)
    rw [Int.mul_neg] at this
    omega
  · have := mul_bd (show 0 ≤ -a by omega) (show -a ≤ A by omega) hb h3
    rw [Int.neg_mul] at this
    omega
  · have := mul_bd (show 0 ≤ -a by omega) (show -a ≤ A by omega) (show 0 ≤ -b by omega) (show -b ≤ B by omega)
    rw [Int.neg_mul_neg] at this
    omega
theorem swp_init {t g d x : Int → Int} {n : Int} {N : Nat} (hn : 0 ≤ n) (hx : ∀ k : Nat, k < N → x k = 0) (re : Int) : Swp t g d x n N 0 re 0 0 0 := by
  refine ⟨fun k hk => by rw [hx k hk]; omega, sF_zero hx, (sF_zero (fun k hk => by rw [hx k hk]; rfl)).symm, (sF_zero (fun k hk => by rw [hx k hk]; rfl)).symm, (sF_zero (fun k hk => by rw [hx k hk]; rfl)).symm, fun k hk h => by rw [hx k hk] at h; omega, fun h => by omega⟩
theorem swp_bd {t g d x : Int → Int} {n dn re ag sl ht : Int} {N : Nat} (hS : Swp t g d x n N dn re ag sl ht) (hN : N ≤ 30) (hg : ∀ i : Int, 0 ≤ i → i < n → 0 ≤ g i ∧ g i ≤ 10000000) (hd : ∀ k : Nat, k < N → 0 ≤ d k ∧ d k ≤ 2000000) : 0 ≤ ag ∧ ag ≤ 30 ∧ -30 ≤ sl ∧ sl ≤ 30 ∧ -360000000 ≤ ht ∧ ht ≤ 360000000 := by
  obtain ⟨s1, s2, s3, s4, s5, s6, s7⟩ := hS
  have b1 := sF_bd (f := fun k : Nat => cA (x k)) (B := 1) (n := N) (fun k hk => by show -1 ≤ cA (x k) ∧ cA (x k) ≤ 1; unfold cA; split <;> omega)
  have b0 := sF_le (f := fun _ => 0) (g := fun k : Nat => cA (x k)) (n := N) (fun k hk => by show 0 ≤ cA (x k); unfold cA; split <;> omega)
  rw [sF_zero (fun _ _ => rfl)] at b0
  have b2 := sF_bd (f := fun k : Nat => cS (x k)) (B := 1) (n := N) (fun k hk => by show -1 ≤ cS (x k) ∧ cS (x k) ≤ 1; unfold cS; split <;> (try split) <;> omega)
  have b3 := sF_bd (f := fun k : Nat => cH g (d k) (x k)) (B := 12000000) (n := N) (fun k hk => by
    show -12000000 ≤ cH g (d k) (x k) ∧ cH g (d k) (x k) ≤ 12000000
    have hx := s1 k hk
    have hdk := hd k hk
    unfold cH
    by_cases e1 : x k % 3 = 1
    · rw [if_pos e1]
      have := hg (x k / 3) (by omega) (by omega)
      omega
    · rw [if_neg e1]
      by_cases e2 : x k % 3 = 2
      · rw [if_pos e2]
        have := hg (x k / 3) (by omega) (by omega)
        omega
      · rw [if_neg e2]
        omega)
  omega
theorem swp_some {t g d x : Int → Int} {n dn re ag sl ht : Int} {N : Nat} (hS : Swp t g d x n N dn re ag sl ht) (h : dn < 3 * n * N) : ¬ ∀ i : Int, 0 ≤ i → i < N → 3 * n ≤ x i := by
  intro q
  obtain ⟨s1, s2, s3⟩ := hS
  have b := sF_le (f := fun _ => 3 * n) (g := fun k : Nat => x k) (n := N) (fun k hk => q k (by omega) (by omega))
  have e : ∀ M : Nat, sF (fun _ => 3 * n) M = 3 * n * M := by
    intro M
    induction M with
    | zero => simp [sF]
    | succ M ih =>
      show sF (fun _ => 3 * n) M + 3 * n = _
      rw [ih, Int.natCast_add, Int.mul_add]
      simp
  rw [e, s2] at b
  omega
theorem swp_all {t g d x : Int → Int} {n dn re ag sl ht : Int} {N : Nat} (hS : Swp t g d x n N dn re ag sl ht) (h : 3 * n * N ≤ dn) : ∀ k : Nat, k < N → x k = 3 * n := by
  obtain ⟨s1, s2, s3⟩ := hS
  have e : ∀ M : Nat, sF (fun _ => 3 * n) M = 3 * n * M := by
    intro M
    induction M with
    | zero => simp [sF]
    | succ M ih =>
      show sF (fun _ => 3 * n) M + 3 * n = _
      rw [ih, Int.natCast_add, Int.mul_add]
      simp
  intro k hk
  have b := sF_part (f := fun k : Nat => 3 * n - x k) (n := N) hk (fun j hj => by have := s1 j hj; omega)
  have b2 : sF (fun k : Nat => 3 * n - x k) N = 3 * n * N - dn := by
    have h1 := sF_add (f := fun k : Nat => 3 * n - x k) (g := fun k : Nat => x k) N
    rw [sF_cong (f := fun k : Nat => 3 * n - x k + x k) (g := fun _ => 3 * n) (fun j _ => by omega), e, s2] at h1
    omega
  have := s1 k hk
  omega
theorem swp_turnZ {t g d x : Int → Int} {n nr dn re ag sl ht q : Int} {N : Nat} (hT : TT t g n nr) (hs : srt g n) (hnr : 0 ≤ nr) (hS : Swp t g d x n N dn re ag sl ht) (hq : 0 ≤ q ∧ q < N) (hxq : x q < 3 * n) (hmin : ∀ i : Int, 0 ≤ i → i < N → x i < 3 * n → t (x q) - d q ≤ t (x i) - d i) :
    Swp t g d (us x q (x q + 1)) n N (dn + 1) (t (x q) - d q) (if x q % 3 = 1 then ag else ag + (if x q % 3 = 0 then 1 else -1)) (if x q % 3 = 1 then sl + 2 else sl - 1) (if x q % 3 = 1 then ht - 2 * (t (x q - x q % 3 + 1) - d q) else ht + (t (x q - x q % 3 + 1) - d q)) := by
  obtain ⟨w, rfl⟩ : ∃ w : Nat, q = w := ⟨q.toNat, by omega⟩
  exact swp_turn hT hs hnr hS (by omega) hxq (fun k hk h => hmin k (by omega) (by omega) h)
theorem dm_first {t g d x ds : Int → Int} {n nr dn re ag sl ht st ba bm bs : Int} {nd : List Int} (hT : TT t g n nr) (hs : srt g n) (hds : ∀ z : Int, isD g n z (ds z)) (hd : ∀ k : Nat, k < nd.length → d k = nd.getD k 0) (hS : Swp t g d x n nd.length dn re ag sl ht) (h0 : dn = 0) (hba : ba = 0) (hmin : ∀ i : Int, 0 ≤ i → i < nd.length → x i < 3 * n → st ≤ t (x i) - d i) : Dm (agF ds nr nd) (smF ds nr nd) (fun X => X < st) st ba bm bs := by
  left
  refine ⟨hba, fun X hX => ?_⟩
  have hz : ∀ k : Nat, k < nd.length → x k = 0 := by
    intro k hk
    have a1 := hS.1 k hk
    have a2 := sF_part (f := fun k : Nat => x k) (n := nd.length) hk (fun j hj => (hS.1 j hj).1)
    rw [hS.2.1] at a2
    omega
  have r := swp_seg hT hs hds hd hS (X := X) (fun k hk h => by rw [hz k hk] at h; omega) (fun k hk h => by have := hmin k (by omega) (by omega) h; omega)
  rw [r.1, hS.2.2.1]
  exact sF_zero (fun k hk => by rw [hz k hk]; rfl)
theorem dm_two {t g d x ds : Int → Int} {n nr dn re ag sl ht st ba bm bs : Int} {nd : List Int} (hT : TT t g n nr) (hs : srt g n) (hds : ∀ z : Int, isD g n z (ds z)) (hd : ∀ k : Nat, k < nd.length → d k = nd.getD k 0) (hS : Swp t g d x n nd.length dn re ag sl ht) (hlt : re < st) (hmin : ∀ i : Int, 0 ≤ i → i < nd.length → x i < 3 * n → st ≤ t (x i) - d i) (h : Dm (agF ds nr nd) (smF ds nr nd) (fun X => X < re) re ba bm bs) (hag : 0 ≤ ag) {ba1 bm1 bs1 ba2 bm2 bs2 : Int}
    (e1 : ba1 = if (ba < ag ∨ ag = ba ∧ ht + sl * re < bm) then ag else ba) (e2 : bm1 = if (ba < ag ∨ ag = ba ∧ ht + sl * re < bm) then ht + sl * re else bm) (e3 : bs1 = if (ba < ag ∨ ag = ba ∧ ht + sl * re < bm) then re else bs)
    (f1 : ba2 = if (ba1 < ag ∨ ag = ba1 ∧ ht + sl * (st - 1) < bm1) then ag else ba1) (f2 : bm2 = if (ba1 < ag ∨ ag = ba1 ∧ ht + sl * (st - 1) < bm1) then ht + sl * (st - 1) else bm1) (f3 : bs2 = if (ba1 < ag ∨ ag = ba1 ∧ ht + sl * (st - 1) < bm1) then st - 1 else bs1) :
    Dm (agF ds nr nd) (smF ds nr nd) (fun X => X < st) st ba2 bm2 bs2 := by
  have seg : ∀ X : Int, re ≤ X → X < st → agF ds nr nd X = ag ∧ smF ds nr nd X = ht + sl * X := fun X h1 h2 =>
    swp_seg hT hs hds hd hS (X := X) (fun k hk q => by have := hS.2.2.2.2.2.1 k hk q; omega) (fun k hk q => by have := hmin k (by omega) (by omega) q; omega)
  have r := seg re (Int.le_refl _) hlt
  have s := seg (st - 1) (by omega) (by omega)
  have c1 := cons1 h (Int.le_refl re) hag r.1 r.2
  rw [← e1, ← e2, ← e3] at c1
  have c2 := cons1 c1 (show re ≤ st - 1 by omega) hag s.1 s.2
  rw [← f1, ← f2, ← f3] at c2
  exact cons2 c2 hlt seg
theorem dm_opt {t g d x ds : Int → Int} {n nr dn re ag sl ht ba bm bs : Int} {nd : List Int} (hn : 1 ≤ n) (hnr : 0 ≤ nr) (hN : 1 ≤ nd.length) (hT : TT t g n nr) (hs : srt g n) (hds : ∀ z : Int, isD g n z (ds z)) (hd : ∀ k : Nat, k < nd.length → d k = nd.getD k 0) (hS : Swp t g d x n nd.length dn re ag sl ht) (hall : 3 * n * nd.length ≤ dn) (h : Dm (agF ds nr nd) (smF ds nr nd) (fun X => X < re) re ba bm bs) : Opt ds nr nd ba bs := by
  have hx := swp_all hS hall
  have hz : ∀ X : Int, re ≤ X → agF ds nr nd X = 0 := by
    intro X hX
    have r := swp_seg hT hs hds hd hS (X := X) (fun k hk q => by have := hS.2.2.2.2.2.1 k hk q; omega) (fun k hk q => by rw [hx k hk] at q; omega)
    rw [r.1, hS.2.2.1]
    exact sF_zero (fun k hk => by rw [hx k hk]; unfold cA; rw [if_pos (by omega)])
  have hw : 1 ≤ agF ds nr nd (g 0 - nd.getD 0 0) := by
    have hd0 : ds (nd.getD 0 0 + (g 0 - nd.getD 0 0)) ≤ nr := by
      have h1 := (hds (nd.getD 0 0 + (g 0 - nd.getD 0 0))).2 0 (by omega) (by omega)
      rw [show nd.getD 0 0 + (g 0 - nd.getD 0 0) - g 0 = 0 from by omega] at h1
      have : iabs 0 = 0 := rfl
      omega
    have := sF_part (f := fun k : Nat => if ds (nd.getD k 0 + (g 0 - nd.getD 0 0)) ≤ nr then (1 : Int) else 0) (q := 0) (n := nd.length) (by omega) (fun k hk => by show 0 ≤ (if _ then (1 : Int) else 0); split <;> omega)
    rw [if_pos hd0] at this
    exact this
  rcases h with ⟨hb, h1⟩ | ⟨hb, hfb, hgb, hbU, h1⟩
  · exfalso
    rcases Int.lt_or_le (g 0 - nd.getD 0 0) re with q | q
    · have := h1 _ q
      omega
    · have := hz _ q
      omega
  · refine ⟨hb, hfb, fun X => ?_⟩
    rcases Int.lt_or_le X re with q | q
    · have := h1 X q
      unfold Gd at this
      rw [hfb] at this
      exact this
    · left
      rw [hz X q]
      exact hb

theorem hw_X5_solve_927464 : (.fieldLink RX5 31 "StoneDates$Sky" "solvedNear" "I" : Cond) ∈ wsX5_solve := by decide +kernel
theorem hi_X5_solve_X5 : ∀ w ∈ u_ws RX5 TX5 15, w ∈ wsX5_solve := by decide +kernel
theorem mdv_X5_placeTurns : yX5_placeTurns.cls = RX5 ∧ yX5_placeTurns.cls ≠ "java/lang/invoke/MethodHandle" ∧ yX5_placeTurns.cls ≠ "java/lang/invoke/VarHandle" ∧ (parseMethodDescriptor yX5_placeTurns.desc).map (fun d => d.parameters.length) = some 1 := by decide +kernel
theorem mdv_X5_gatherDates : yX5_gatherDates.cls = RX5 ∧ yX5_gatherDates.cls ≠ "java/lang/invoke/MethodHandle" ∧ yX5_gatherDates.cls ≠ "java/lang/invoke/VarHandle" ∧ (parseMethodDescriptor yX5_gatherDates.desc).map (fun d => d.parameters.length) = some 0 := by decide +kernel
theorem hw_X5_solve_b6fae5 : (.fieldLink RX5 55 "StoneDates$Sky" "agreeing" "I" : Cond) ∈ wsX5_solve := by decide +kernel
theorem hw_X5_solve_466412 : (.fieldLink RX5 58 "StoneDates$Sky" "slope" "I" : Cond) ∈ wsX5_solve := by decide +kernel
theorem hw_X5_solve_cf89c6 : (.fieldLink RX5 61 "StoneDates$Sky" "height" "J" : Cond) ∈ wsX5_solve := by decide +kernel
theorem hw_X5_solve_79c78d : (.fieldLink RX5 65 "StoneDates$Sky" "bestAgreeing" "I" : Cond) ∈ wsX5_solve := by decide +kernel
theorem hw_X5_solve_8f8c49 : (.fieldLink RX5 35 "StoneDates$Sky" "size" "I" : Cond) ∈ wsX5_solve := by decide +kernel
theorem mdv_X5_firstToTurn : yX5_firstToTurn.cls = RX5 ∧ yX5_firstToTurn.cls ≠ "java/lang/invoke/MethodHandle" ∧ yX5_firstToTurn.cls ≠ "java/lang/invoke/VarHandle" ∧ (parseMethodDescriptor yX5_firstToTurn.desc).map (fun d => d.parameters.length) = some 1 := by decide +kernel
theorem hw_X5_solve_520157 : (.fieldLink RX5 22 "StoneDates$Sky" "turns" "[I" : Cond) ∈ wsX5_solve := by decide +kernel
theorem hw_X5_solve_a6b57e : (.fieldLink RX5 28 "StoneDates$Sky" "next" "[I" : Cond) ∈ wsX5_solve := by decide +kernel
theorem hw_X5_solve_069bc0 : (.fieldLink RX5 25 "StoneDates$Sky" "dates" "[I" : Cond) ∈ wsX5_solve := by decide +kernel
theorem mdv_X5_turn : yX5_turn.cls = RX5 ∧ yX5_turn.cls ≠ "java/lang/invoke/MethodHandle" ∧ yX5_turn.cls ≠ "java/lang/invoke/VarHandle" ∧ (parseMethodDescriptor yX5_turn.desc).map (fun d => d.parameters.length) = some 1 := by decide +kernel
theorem mdv_X5_consider : yX5_consider.cls = RX5 ∧ yX5_consider.cls ≠ "java/lang/invoke/MethodHandle" ∧ yX5_consider.cls ≠ "java/lang/invoke/VarHandle" ∧ (parseMethodDescriptor yX5_consider.desc).map (fun d => d.parameters.length) = some 1 := by decide +kernel
set_option maxHeartbeats 4000000 in
set_option maxRecDepth 100000 in
theorem c_X5_solve (l : Launch) (G : GG) (h : Nat) (eA : Nat) (nA : Nat) (oA : Nat) (tA : Nat) (aA : Nat) (xA : Nat) (size : Int) (naming : Int) (bs : Int) (ba : Int) (sn : Int) (ag : Int) (sl : Int) (ht : Int) (bm : Int) (ec : Int → Int) (nm : Int → Bool) (dO : Int → Int) (t : Int → Int) (d : Int → Int) (x : Int → Int) (nr : Int) (ds : Int → Int) (hz : 1 ≤ size ∧ size ≤ 40) (hnr : 0 ≤ nr ∧ nr ≤ 1000) (he : ∀ i : Int, 0 ≤ i → i < size → 0 ≤ ec i ∧ ec i ≤ 10000000) (hso : srt ec size) (hds : ∀ z : Int, isD ec size z (ds z)) (hdo : ∀ k : Nat, k < (nl nm dO 30).length → 0 ≤ (nl nm dO 30).getD k 0 ∧ (nl nm dO 30).getD k 0 ≤ 2000000) (hnl : 1 ≤ (nl nm dO 30).length) (hbm : R63 bm) (hsn : R31 sn) (hca : sn = nr → Opt ds nr (nl nm dO 30) ba bs) : Cv l yX5_solve wsX5_solve ({ frames := 2, cells := 0, slots := 0, locals := 45 }) G E0 [.ref h, .int (iz nr)] [(h, .inr (3, [.int (iz size), .int (iz naming), .int (iz bs), .int (iz ba), .ref eA, .ref nA, .ref oA, .ref tA, .ref aA, .ref xA, .int (iz sn), .int (iz ag), .int (iz sl), .long (lz ht), .long (lz bm)])), (eA, .inl (G.2 0, 40, .inl (av ec))), (nA, .inl (G.2 3, 30, .inl (bv nm))), (oA, .inl (G.2 0, 30, .inl (av dO))), (tA, .inl (G.2 0, 120, .inl (av t))), (aA, .inl (G.2 0, 30, .inl (av d))), (xA, .inl (G.2 0, 30, .inl (av x)))] 0 0 (fun u : Int × Int × Int × Int × Int × Int × (Int → Int) × (Int → Int) × (Int → Int) => match u with | (ba2, bs2, ag2, sl2, ht2, bm2, t2, d2, x2) => [(h, .inr (3, [.int (iz size), .int (iz naming), .int (iz bs2), .int (iz ba2), .ref eA, .ref nA, .ref oA, .ref tA, .ref aA, .ref xA, .int (iz nr), .int (iz ag2), .int (iz sl2), .long (lz ht2), .long (lz bm2)])), (eA, .inl (G.2 0, 40, .inl (av ec))), (nA, .inl (G.2 3, 30, .inl (bv nm))), (oA, .inl (G.2 0, 30, .inl (av dO))), (tA, .inl (G.2 0, 120, .inl (av t2))), (aA, .inl (G.2 0, 30, .inl (av d2))), (xA, .inl (G.2 0, 30, .inl (av x2)))]) (fun (u : Int × Int × Int × Int × Int × Int × (Int → Int) × (Int → Int) × (Int → Int)) => match u with | (ba2, bs2, ag2, sl2, ht2, bm2, t2, d2, x2) => Opt ds nr (nl nm dO 30) ba2 bs2 ∧ R63 bm2) := by
  refine Cv_intro (cc := cX5_solve) (maxL := 8) (ret := none) (by decide) rfl (Nat.le_of_ble_eq_true rfl) ?_
  intro p e s m below meth c A F hA hP hD hK hE ls hl
  have hX_ := F.1
  have hB_ := F.2.1
  have hts := F.2.2.2.2.2.1
  have hown := F.2.2.2.2.1
  have hml := F.2.2.2.1
  have hS : va_S A s.heap s.heap [] := va_S.rf
  have hl : lv_has ls 8 [(0, .ref h), (1, .int (iz nr))] := hl
  refine lv_aload_n hX_ hB_ dX5_solve_0 rfl (lv_at hl 0 rfl) ?_
  refine va_get (D := G.1) (ci := 3) (v := .int (iz sn)) (C := RX5) (T := TX5) (N := 15) hX_ hB_ hts hi_X5_solve_X5 hown hK.1 hP 0 rfl rfl 10 (by decide) (hts _ hw_X5_solve_927464) (fun _ h9 => h9) rfl dX5_solve_1 ?_
  refine lv_iload_n hX_ hB_ dX5_solve_4 rfl (lv_at hl 1 rfl) ?_
  refine zk_icmp_ne (tgt := 9) hX_ hB_ (by omega) (by omega) dX5_solve_5 (by decide) (fun c_5 => ?_) (fun c_5 => ?_)
  · skip
    refine lv_aload_n hX_ hB_ dX5_solve_9 rfl (lv_at hl 0 rfl) ?_
    refine lv_iload_n hX_ hB_ dX5_solve_10 rfl (lv_at hl 1 rfl) ?_
    refine va_put (D := G.1) (ci := 3) (v := .int (iz nr)) (ty := .int) (C := RX5) (T := TX5) (N := 15) hX_ hB_ hts hi_X5_solve_X5 tyX5 tyX5_ok nmX5 hown hK.1 hP hD hS 0 rfl rfl 10 (by decide) (hts _ hw_X5_solve_927464) (fun _ h9 => h9) rfl (by decide +kernel) rfl rfl (Nat.le_of_ble_eq_true rfl) dX5_solve_11 (fun H locs hP hD hS => ?_)
    have hP : va_P G.1 vwCl [(h, .inr (3, [.int (iz size), .int (iz naming), .int (iz bs), .int (iz ba), .ref eA, .ref nA, .ref oA, .ref tA, .ref aA, .ref xA, .int (iz nr), .int (iz ag), .int (iz sl), .long (lz ht), .long (lz bm)])), (eA, .inl (G.2 0, 40, .inl (av ec))), (nA, .inl (G.2 3, 30, .inl (bv nm))), (oA, .inl (G.2 0, 30, .inl (av dO))), (tA, .inl (G.2 0, 120, .inl (av t))), (aA, .inl (G.2 0, 30, .inl (av d))), (xA, .inl (G.2 0, 30, .inl (av x)))] _ := hP
    have hD : va_D A [(h, .inr (3, [.int (iz size), .int (iz naming), .int (iz bs), .int (iz ba), .ref eA, .ref nA, .ref oA, .ref tA, .ref aA, .ref xA, .int (iz nr), .int (iz ag), .int (iz sl), .long (lz ht), .long (lz bm)])), (eA, .inl (G.2 0, 40, .inl (av ec))), (nA, .inl (G.2 3, 30, .inl (bv nm))), (oA, .inl (G.2 0, 30, .inl (av dO))), (tA, .inl (G.2 0, 120, .inl (av t))), (aA, .inl (G.2 0, 30, .inl (av d))), (xA, .inl (G.2 0, 30, .inl (av x)))] := hD
    refine lv_aload_n hX_ hB_ dX5_solve_14 rfl (lv_at hl 0 rfl) ?_
    refine lv_iload_n hX_ hB_ dX5_solve_15 rfl (lv_at hl 1 rfl) ?_
    refine back_v (wr := []) (run_V (As := [.int (iz nr)]) (rest := []) (wc := [(h, .inr (3, [.int (iz size), .int (iz naming), .int (iz bs), .int (iz ba), .ref eA, .ref nA, .ref oA, .ref tA, .ref aA, .ref xA, .int (iz nr), .int (iz ag), .int (iz sl), .long (lz ht), .long (lz bm)])), (eA, .inl (G.2 0, 40, .inl (av ec))), (nA, .inl (G.2 3, 30, .inl (bv nm))), (oA, .inl (G.2 0, 30, .inl (av dO))), (tA, .inl (G.2 0, 120, .inl (av t))), (aA, .inl (G.2 0, 30, .inl (av d))), (xA, .inl (G.2 0, 30, .inl (av x)))]) F (c_X5_placeTurns l G h eA nA oA tA aA xA size naming bs ba nr ag sl ht bm ec nm dO t d x nr (by omega) (by omega) (by exact he) _) ext0 gX5_solve_X5_placeTurns rfl rfl rfl mdv_X5_placeTurns ⟨Nat.le_of_ble_eq_true rfl, Nat.le_of_ble_eq_true rfl⟩ (va_recv hK.1 (hP.sub (ws' := [(h, .inr (3, [.int (iz size), .int (iz naming), .int (iz bs), .int (iz ba), .ref eA, .ref nA, .ref oA, .ref tA, .ref aA, .ref xA, .int (iz nr), .int (iz ag), .int (iz sl), .long (lz ht), .long (lz bm)])), (eA, .inl (G.2 0, 40, .inl (av ec))), (nA, .inl (G.2 3, 30, .inl (bv nm))), (oA, .inl (G.2 0, 30, .inl (av dO))), (tA, .inl (G.2 0, 120, .inl (av t))), (aA, .inl (G.2 0, 30, .inl (av d))), (xA, .inl (G.2 0, 30, .inl (av x)))]) [0, 1, 2, 3, 4, 5, 6] rfl) (ci := 3) (q0 := 0) rfl rfl) (pre_of ext0 hK hP hD hS hA trivial [0, 1, 2, 3, 4, 5, 6] (by decide) rfl _) rfl hl.1 (Nat.le_of_ble_eq_true rfl) dX5_solve_16 ⟨by decide, by decide⟩) hP hD hS hA [0, 1, 2, 3, 4, 5, 6] [] rfl rfl (by decide) (by decide) (fun u__ H locs hw hP hD hS => ?_)
    obtain ⟨t2, rfl⟩ : ∃ z, z = u__ := ⟨_, rfl⟩
    try dsimp only at hw hP hD
    have hw_16 := hw
    have hP := hP.sub (ws' := [(h, .inr (3, [.int (iz size), .int (iz naming), .int (iz bs), .int (iz ba), .ref eA, .ref nA, .ref oA, .ref tA, .ref aA, .ref xA, .int (iz nr), .int (iz ag), .int (iz sl), .long (lz ht), .long (lz bm)])), (eA, .inl (G.2 0, 40, .inl (av ec))), (nA, .inl (G.2 3, 30, .inl (bv nm))), (oA, .inl (G.2 0, 30, .inl (av dO))), (tA, .inl (G.2 0, 120, .inl (av t2))), (aA, .inl (G.2 0, 30, .inl (av d))), (xA, .inl (G.2 0, 30, .inl (av x)))]) [0, 1, 2, 3, 4, 5, 6] rfl
    have hD := hD.sub (ws' := [(h, .inr (3, [.int (iz size), .int (iz naming), .int (iz bs), .int (iz ba), .ref eA, .ref nA, .ref oA, .ref tA, .ref aA, .ref xA, .int (iz nr), .int (iz ag), .int (iz sl), .long (lz ht), .long (lz bm)])), (eA, .inl (G.2 0, 40, .inl (av ec))), (nA, .inl (G.2 3, 30, .inl (bv nm))), (oA, .inl (G.2 0, 30, .inl (av dO))), (tA, .inl (G.2 0, 120, .inl (av t2))), (aA, .inl (G.2 0, 30, .inl (av d))), (xA, .inl (G.2 0, 30, .inl (av x)))]) [0, 1, 2, 3, 4, 5, 6] (by decide) rfl
    refine lv_aload_n hX_ hB_ dX5_solve_19 rfl (lv_at hl 0 rfl) ?_
    refine back_i (wr := []) (run_V (As := []) (rest := []) (wc := [(h, .inr (3, [.int (iz size), .int (iz naming), .int (iz bs), .int (iz ba), .ref eA, .ref nA, .ref oA, .ref tA, .ref aA, .ref xA, .int (iz nr), .int (iz ag), .int (iz sl), .long (lz ht), .long (lz bm)])), (eA, .inl (G.2 0, 40, .inl (av ec))), (nA, .inl (G.2 3, 30, .inl (bv nm))), (oA, .inl (G.2 0, 30, .inl (av dO))), (tA, .inl (G.2 0, 120, .inl (av t2))), (aA, .inl (G.2 0, 30, .inl (av d))), (xA, .inl (G.2 0, 30, .inl (av x)))]) F (c_X5_gatherDates l G h eA nA oA tA aA xA size naming bs ba nr ag sl ht bm ec nm dO t2 d x _) ext0 gX5_solve_X5_gatherDates rfl rfl rfl mdv_X5_gatherDates ⟨Nat.le_of_ble_eq_true rfl, Nat.le_of_ble_eq_true rfl⟩ (va_recv hK.1 (hP.sub (ws' := [(h, .inr (3, [.int (iz size), .int (iz naming), .int (iz bs), .int (iz ba), .ref eA, .ref nA, .ref oA, .ref tA, .ref aA, .ref xA, .int (iz nr), .int (iz ag), .int (iz sl), .long (lz ht), .long (lz bm)])), (eA, .inl (G.2 0, 40, .inl (av ec))), (nA, .inl (G.2 3, 30, .inl (bv nm))), (oA, .inl (G.2 0, 30, .inl (av dO))), (tA, .inl (G.2 0, 120, .inl (av t2))), (aA, .inl (G.2 0, 30, .inl (av d))), (xA, .inl (G.2 0, 30, .inl (av x)))]) [0, 1, 2, 3, 4, 5, 6] rfl) (ci := 3) (q0 := 0) rfl rfl) (pre_of ext0 hK hP hD hS hA trivial [0, 1, 2, 3, 4, 5, 6] (by decide) rfl _) rfl hl.1 (Nat.le_of_ble_eq_true rfl) dX5_solve_20 ⟨by decide, by decide⟩) hP hD hS hA [0, 1, 2, 3, 4, 5, 6] [] rfl rfl (by decide) (by decide) (fun r__ u__ H locs hw hP hD hS => ?_)
    obtain ⟨d2, x0⟩ := u__
    try dsimp only at hw hP hD
    have hw_20 := hw
    have hP := hP.sub (ws' := [(h, .inr (3, [.int (iz size), .int (iz naming), .int (iz bs), .int (iz ba), .ref eA, .ref nA, .ref oA, .ref tA, .ref aA, .ref xA, .int (iz nr), .int (iz ag), .int (iz sl), .long (lz ht), .long (lz bm)])), (eA, .inl (G.2 0, 40, .inl (av ec))), (nA, .inl (G.2 3, 30, .inl (bv nm))), (oA, .inl (G.2 0, 30, .inl (av dO))), (tA, .inl (G.2 0, 120, .inl (av t2))), (aA, .inl (G.2 0, 30, .inl (av d2))), (xA, .inl (G.2 0, 30, .inl (av x0)))]) [0, 1, 2, 3, 4, 5, 6] rfl
    have hD := hD.sub (ws' := [(h, .inr (3, [.int (iz size), .int (iz naming), .int (iz bs), .int (iz ba), .ref eA, .ref nA, .ref oA, .ref tA, .ref aA, .ref xA, .int (iz nr), .int (iz ag), .int (iz sl), .long (lz ht), .long (lz bm)])), (eA, .inl (G.2 0, 40, .inl (av ec))), (nA, .inl (G.2 3, 30, .inl (bv nm))), (oA, .inl (G.2 0, 30, .inl (av dO))), (tA, .inl (G.2 0, 120, .inl (av t2))), (aA, .inl (G.2 0, 30, .inl (av d2))), (xA, .inl (G.2 0, 30, .inl (av x0)))]) [0, 1, 2, 3, 4, 5, 6] (by decide) rfl
    obtain ⟨r_20, rfl⟩ : ∃ z, z = r__ := ⟨_, rfl⟩
    refine zk_topi (y := (iz ((nl nm dO 30).length : Int))) hw_20.1 ?_
    have hdr : ∀ k : Nat, k < (nl nm dO 30).length → 0 ≤ d2 k ∧ d2 k ≤ 2000000 := fun k hk => by rw [hw_20.2.1 k hk]; exact hdo k hk
    have hN30 := nl_le (nm := nm) (dO := dO) 30
    have hall := mul_bd (a := 3 * size) (b := ((nl nm dO 30).length : Int)) (A := 120) (B := 30) (by omega) (by omega) (by omega) (by omega)
    refine lv_istore_n (lv' := [(2, .int (iz ((nl nm dO 30).length : Int))), (0, .ref h), (1, .int (iz nr))]) hX_ hB_ dX5_solve_23 rfl hl (by decide) rfl (fun ls hl => ?_)
    refine lv_aload_n hX_ hB_ dX5_solve_24 rfl (lv_at hl 1 rfl) ?_
    refine zk_iconst hX_ hB_ dX5_solve_25 ?_
    refine va_put (D := G.1) (ci := 3) (v := .int (iz 0)) (ty := .int) (C := RX5) (T := TX5) (N := 15) hX_ hB_ hts hi_X5_solve_X5 tyX5 tyX5_ok nmX5 hown hK.1 hP hD hS 0 rfl rfl 11 (by decide) (hts _ hw_X5_solve_b6fae5) (fun _ h9 => h9) rfl (by decide +kernel) rfl rfl (Nat.le_of_ble_eq_true rfl) dX5_solve_26 (fun H locs hP hD hS => ?_)
    have hP : va_P G.1 vwCl [(h, .inr (3, [.int (iz size), .int (iz naming), .int (iz bs), .int (iz ba), .ref eA, .ref nA, .ref oA, .ref tA, .ref aA, .ref xA, .int (iz nr), .int (iz 0), .int (iz sl), .long (lz ht), .long (lz bm)])), (eA, .inl (G.2 0, 40, .inl (av ec))), (nA, .inl (G.2 3, 30, .inl (bv nm))), (oA, .inl (G.2 0, 30, .inl (av dO))), (tA, .inl (G.2 0, 120, .inl (av t2))), (aA, .inl (G.2 0, 30, .inl (av d2))), (xA, .inl (G.2 0, 30, .inl (av x0)))] _ := hP
    have hD : va_D A [(h, .inr (3, [.int (iz size), .int (iz naming), .int (iz bs), .int (iz ba), .ref eA, .ref nA, .ref oA, .ref tA, .ref aA, .ref xA, .int (iz nr), .int (iz 0), .int (iz sl), .long (lz ht), .long (lz bm)])), (eA, .inl (G.2 0, 40, .inl (av ec))), (nA, .inl (G.2 3, 30, .inl (bv nm))), (oA, .inl (G.2 0, 30, .inl (av dO))), (tA, .inl (G.2 0, 120, .inl (av t2))), (aA, .inl (G.2 0, 30, .inl (av d2))), (xA, .inl (G.2 0, 30, .inl (av x0)))] := hD
    refine lv_aload_n hX_ hB_ dX5_solve_29 rfl (lv_at hl 1 rfl) ?_
    refine zk_iconst hX_ hB_ dX5_solve_30 ?_
    refine va_put (D := G.1) (ci := 3) (v := .int (iz 0)) (ty := .int) (C := RX5) (T := TX5) (N := 15) hX_ hB_ hts hi_X5_solve_X5 tyX5 tyX5_ok nmX5 hown hK.1 hP hD hS 0 rfl rfl 12 (by decide) (hts _ hw_X5_solve_466412) (fun _ h9 => h9) rfl (by decide +kernel) rfl rfl (Nat.le_of_ble_eq_true rfl) dX5_solve_31 (fun H locs hP hD hS => ?_)
    have hP : va_P G.1 vwCl [(h, .inr (3, [.int (iz size), .int (iz naming), .int (iz bs), .int (iz ba), .ref eA, .ref nA, .ref oA, .ref tA, .ref aA, .ref xA, .int (iz nr), .int (iz 0), .int (iz 0), .long (lz ht), .long (lz bm)])), (eA, .inl (G.2 0, 40, .inl (av ec))), (nA, .inl (G.2 3, 30, .inl (bv nm))), (oA, .inl (G.2 0, 30, .inl (av dO))), (tA, .inl (G.2 0, 120, .inl (av t2))), (aA, .inl (G.2 0, 30, .inl (av d2))), (xA, .inl (G.2 0, 30, .inl (av x0)))] _ := hP
    have hD : va_D A [(h, .inr (3, [.int (iz size), .int (iz naming), .int (iz bs), .int (iz ba), .ref eA, .ref nA, .ref oA, .ref tA, .ref aA, .ref xA, .int (iz nr), .int (iz 0), .int (iz 0), .long (lz ht), .long (lz bm)])), (eA, .inl (G.2 0, 40, .inl (av ec))), (nA, .inl (G.2 3, 30, .inl (bv nm))), (oA, .inl (G.2 0, 30, .inl (av dO))), (tA, .inl (G.2 0, 120, .inl (av t2))), (aA, .inl (G.2 0, 30, .inl (av d2))), (xA, .inl (G.2 0, 30, .inl (av x0)))] := hD
    refine lv_aload_n hX_ hB_ dX5_solve_34 rfl (lv_at hl 1 rfl) ?_
    refine zk_lconst hX_ hB_ 0 (by decide) dX5_solve_35 ?_
    refine va_put (D := G.1) (ci := 3) (v := .long (lz 0)) (ty := .long) (C := RX5) (T := TX5) (N := 15) hX_ hB_ hts hi_X5_solve_X5 tyX5 tyX5_ok nmX5 hown hK.1 hP hD hS 0 rfl rfl 13 (by decide) (hts _ hw_X5_solve_cf89c6) (fun _ h9 => h9) rfl (by decide +kernel) rfl rfl (Nat.le_of_ble_eq_true rfl) dX5_solve_36 (fun H locs hP hD hS => ?_)
    have hP : va_P G.1 vwCl [(h, .inr (3, [.int (iz size), .int (iz naming), .int (iz bs), .int (iz ba), .ref eA, .ref nA, .ref oA, .ref tA, .ref aA, .ref xA, .int (iz nr), .int (iz 0), .int (iz 0), .long (lz 0), .long (lz bm)])), (eA, .inl (G.2 0, 40, .inl (av ec))), (nA, .inl (G.2 3, 30, .inl (bv nm))), (oA, .inl (G.2 0, 30, .inl (av dO))), (tA, .inl (G.2 0, 120, .inl (av t2))), (aA, .inl (G.2 0, 30, .inl (av d2))), (xA, .inl (G.2 0, 30, .inl (av x0)))] _ := hP
    have hD : va_D A [(h, .inr (3, [.int (iz size), .int (iz naming), .int (iz bs), .int (iz ba), .ref eA, .ref nA, .ref oA, .ref tA, .ref aA, .ref xA, .int (iz nr), .int (iz 0), .int (iz 0), .long (lz 0), .long (lz bm)])), (eA, .inl (G.2 0, 40, .inl (av ec))), (nA, .inl (G.2 3, 30, .inl (bv nm))), (oA, .inl (G.2 0, 30, .inl (av dO))), (tA, .inl (G.2 0, 120, .inl (av t2))), (aA, .inl (G.2 0, 30, .inl (av d2))), (xA, .inl (G.2 0, 30, .inl (av x0)))] := hD
    refine lv_aload_n hX_ hB_ dX5_solve_39 rfl (lv_at hl 1 rfl) ?_
    refine zk_iconst hX_ hB_ dX5_solve_40 ?_
    refine va_put (D := G.1) (ci := 3) (v := .int (iz 0)) (ty := .int) (C := RX5) (T := TX5) (N := 15) hX_ hB_ hts hi_X5_solve_X5 tyX5 tyX5_ok nmX5 hown hK.1 hP hD hS 0 rfl rfl 3 (by decide) (hts _ hw_X5_solve_79c78d) (fun _ h9 => h9) rfl (by decide +kernel) rfl rfl (Nat.le_of_ble_eq_true rfl) dX5_solve_41 (fun H locs hP hD hS => ?_)
    have hP : va_P G.1 vwCl [(h, .inr (3, [.int (iz size), .int (iz naming), .int (iz bs), .int (iz 0), .ref eA, .ref nA, .ref oA, .ref tA, .ref aA, .ref xA, .int (iz nr), .int (iz 0), .int (iz 0), .long (lz 0), .long (lz bm)])), (eA, .inl (G.2 0, 40, .inl (av ec))), (nA, .inl (G.2 3, 30, .inl (bv nm))), (oA, .inl (G.2 0, 30, .inl (av dO))), (tA, .inl (G.2 0, 120, .inl (av t2))), (aA, .inl (G.2 0, 30, .inl (av d2))), (xA, .inl (G.2 0, 30, .inl (av x0)))] _ := hP
    have hD : va_D A [(h, .inr (3, [.int (iz size), .int (iz naming), .int (iz bs), .int (iz 0), .ref eA, .ref nA, .ref oA, .ref tA, .ref aA, .ref xA, .int (iz nr), .int (iz 0), .int (iz 0), .long (lz 0), .long (lz bm)])), (eA, .inl (G.2 0, 40, .inl (av ec))), (nA, .inl (G.2 3, 30, .inl (bv nm))), (oA, .inl (G.2 0, 30, .inl (av dO))), (tA, .inl (G.2 0, 120, .inl (av t2))), (aA, .inl (G.2 0, 30, .inl (av d2))), (xA, .inl (G.2 0, 30, .inl (av x0)))] := hD
    refine zk_iconst hX_ hB_ dX5_solve_44 ?_
    refine lv_istore_n (lv' := [(3, .int (iz 0)), (2, .int (iz ((nl nm dO 30).length : Int))), (0, .ref h), (1, .int (iz nr))]) hX_ hB_ dX5_solve_45 rfl hl (by decide) rfl (fun ls hl => ?_)
    refine zk_iconst hX_ hB_ dX5_solve_46 ?_
    refine lv_aload_n hX_ hB_ dX5_solve_47 rfl (lv_at hl 2 rfl) ?_
    refine va_get (D := G.1) (ci := 3) (v := .int (iz size)) (C := RX5) (T := TX5) (N := 15) hX_ hB_ hts hi_X5_solve_X5 hown hK.1 hP 0 rfl rfl 0 (by decide) (hts _ hw_X5_solve_8f8c49) (fun _ h9 => h9) rfl dX5_solve_48 ?_
    refine zk_imul hX_ hB_ dX5_solve_51 ?_
    refine lv_iload_n hX_ hB_ dX5_solve_52 rfl (lv_at hl 1 rfl) ?_
    refine zk_imul hX_ hB_ dX5_solve_53 ?_
    refine lv_istore (lv' := [(4, .int (iz ((3 * size) * ((nl nm dO 30).length : Int)))), (3, .int (iz 0)), (2, .int (iz ((nl nm dO 30).length : Int))), (0, .ref h), (1, .int (iz nr))]) hX_ hB_ dX5_solve_54 hl (by decide) rfl (fun ls hl => ?_)
    refine zk_iconst hX_ hB_ dX5_solve_56 ?_
    refine lv_istore (lv' := [(5, .int (iz 0)), (4, .int (iz ((3 * size) * ((nl nm dO 30).length : Int)))), (3, .int (iz 0)), (2, .int (iz ((nl nm dO 30).length : Int))), (0, .ref h), (1, .int (iz nr))]) hX_ hB_ dX5_solve_57 hl (by decide) rfl (fun ls hl => ?_)
    have loop_59 : ∀ (n_59 : Nat), ∀ (dn : Int) (re : Int) (ag1 : Int) (sl1 : Int) (ht1 : Int) (bm1 : Int) (ba1 : Int) (bs1 : Int) (xx : Int → Int), (0 ≤ dn ∧ dn ≤ (3 * size) * ((nl nm dO 30).length : Int)) → (Swp t2 ec d2 xx size (nl nm dO 30).length dn re ag1 sl1 ht1) → ((dn = 0 ∧ ba1 = 0) ∨ (0 < dn ∧ Dm (agF ds nr (nl nm dO 30)) (smF ds nr (nl nm dO 30)) (fun X => X < re) re ba1 bm1 bs1)) → (-13000000 ≤ re ∧ re ≤ 13000000) → (R63 bm1) → (0 ≤ ba1 ∧ ba1 ≤ 1000) → (((3 * size) * ((nl nm dO 30).length : Int) - dn).toNat < n_59) → ∀ (H : Heap) (locs : List Loc), va_P G.1 vwCl [(h, .inr (3, [.int (iz size), .int (iz naming), .int (iz bs1), .int (iz ba1), .ref eA, .ref nA, .ref oA, .ref tA, .ref aA, .ref xA, .int (iz nr), .int (iz ag1), .int (iz sl1), .long (lz ht1), .long (lz bm1)])), (eA, .inl (G.2 0, 40, .inl (av ec))), (nA, .inl (G.2 3, 30, .inl (bv nm))), (oA, .inl (G.2 0, 30, .inl (av dO))), (tA, .inl (G.2 0, 120, .inl (av t2))), (aA, .inl (G.2 0, 30, .inl (av d2))), (xA, .inl (G.2 0, 30, .inl (av xx)))] H → va_D A [(h, .inr (3, [.int (iz size), .int (iz naming), .int (iz bs1), .int (iz ba1), .ref eA, .ref nA, .ref oA, .ref tA, .ref aA, .ref xA, .int (iz nr), .int (iz ag1), .int (iz sl1), .long (lz ht1), .long (lz bm1)])), (eA, .inl (G.2 0, 40, .inl (av ec))), (nA, .inl (G.2 3, 30, .inl (bv nm))), (oA, .inl (G.2 0, 30, .inl (av dO))), (tA, .inl (G.2 0, 120, .inl (av t2))), (aA, .inl (G.2 0, 30, .inl (av d2))), (xA, .inl (G.2 0, 30, .inl (av xx)))] → va_S A s.heap H locs → ∀ ls : Array Slot, lv_has ls 8 [(0, .ref h), (1, .int (iz nr)), (2, .int (iz ((nl nm dO 30).length : Int))), (3, .int (iz re)), (4, .int (iz ((3 * size) * ((nl nm dO 30).length : Int)))), (5, .int (iz dn))] → W p l e ({ frames := 2, cells := 0, slots := 0, locals := 45 }) s m ([.ref h, .int (iz nr)] : List Value).toArray below meth c H locs 0 0 (MQ below (va_Qv (fun (u : Int × Int × Int × Int × Int × Int × (Int → Int) × (Int → Int) × (Int → Int)) => match u with | (ba2, bs2, ag2, sl2, ht2, bm2, t2, d2, x2) => Opt ds nr (nl nm dO 30) ba2 bs2 ∧ R63 bm2) (fun u__ t__ => Pst G A ((fun u : Int × Int × Int × Int × Int × Int × (Int → Int) × (Int → Int) × (Int → Int) => match u with | (ba2, bs2, ag2, sl2, ht2, bm2, t2, d2, x2) => [(h, .inr (3, [.int (iz size), .int (iz naming), .int (iz bs2), .int (iz ba2), .ref eA, .ref nA, .ref oA, .ref tA, .ref aA, .ref xA, .int (iz nr), .int (iz ag2), .int (iz sl2), .long (lz ht2), .long (lz bm2)])), (eA, .inl (G.2 0, 40, .inl (av ec))), (nA, .inl (G.2 3, 30, .inl (bv nm))), (oA, .inl (G.2 0, 30, .inl (av dO))), (tA, .inl (G.2 0, 120, .inl (av t2))), (aA, .inl (G.2 0, 30, .inl (av d2))), (xA, .inl (G.2 0, 30, .inl (av x2)))]) u__) t__) A) ([.ref h, .int (iz nr)] : List Value).toArray s 0 0 A) (F0 m 59 ls []) := by
      intro n_59
      induction n_59 with
      | zero =>
        intro dn re ag1 sl1 ht1 bm1 ba1 bs1 xx hdn hS1 hB1 hre hbm1 hba1 hm H locs hP hD hS ls hl
        exact absurd hm (Nat.not_lt_zero _)
      | succ n_59 ih_59 =>
        intro dn re ag1 sl1 ht1 bm1 ba1 bs1 xx hdn hS1 hB1 hre hbm1 hba1 hm H locs hP hD hS ls hl
        have hbd := swp_bd hS1 (by omega) he hdr
        refine lv_iload hX_ hB_ dX5_solve_59 (lv_at hl 5 rfl) ?_
        refine lv_iload hX_ hB_ dX5_solve_61 (lv_at hl 4 rfl) ?_
        refine zk_icmp_ge (tgt := 140) hX_ hB_ (by omega) (by omega) dX5_solve_63 (by decide) (fun c_63 => ?_) (fun c_63 => ?_)
        · skip
          exact fin_v (wf := (fun u : Int × Int × Int × Int × Int × Int × (Int → Int) × (Int → Int) × (Int → Int) => match u with | (ba2, bs2, ag2, sl2, ht2, bm2, t2, d2, x2) => [(h, .inr (3, [.int (iz size), .int (iz naming), .int (iz bs2), .int (iz ba2), .ref eA, .ref nA, .ref oA, .ref tA, .ref aA, .ref xA, .int (iz nr), .int (iz ag2), .int (iz sl2), .long (lz ht2), .long (lz bm2)])), (eA, .inl (G.2 0, 40, .inl (av ec))), (nA, .inl (G.2 3, 30, .inl (bv nm))), (oA, .inl (G.2 0, 30, .inl (av dO))), (tA, .inl (G.2 0, 120, .inl (av t2))), (aA, .inl (G.2 0, 30, .inl (av d2))), (xA, .inl (G.2 0, 30, .inl (av x2)))])) (ba1, bs1, ag1, sl1, ht1, bm1, t2, d2, xx) F hP hD hK hS (by decide) (by decide) dX5_solve_140 (by refine ⟨?_, hbm1⟩; rcases hB1 with ⟨z1, z2⟩ | ⟨z1, z2⟩; (exfalso; have := mul_bd (a := 3 * size) (b := ((nl nm dO 30).length : Int)) (A := 120) (B := 30) (by omega) (by omega) (by omega) (by omega); have := Int.mul_le_mul (a := 3) (b := 1) (c := 3 * size) (d := ((nl nm dO 30).length : Int)) (by omega) (by omega) (by omega) (by omega); omega); exact dm_opt hz.1 hnr.1 hnl hw_16 hso hds hw_20.2.1 hS1 (by omega) z2)
        · skip
          refine lv_aload_n hX_ hB_ dX5_solve_66 rfl (lv_at hl 0 rfl) ?_
          refine lv_iload_n hX_ hB_ dX5_solve_67 rfl (lv_at hl 2 rfl) ?_
          refine back_i (wr := []) (run_V (As := [.int (iz ((nl nm dO 30).length : Int))]) (rest := []) (wc := [(h, .inr (3, [.int (iz size), .int (iz naming), .int (iz bs1), .int (iz ba1), .ref eA, .ref nA, .ref oA, .ref tA, .ref aA, .ref xA, .int (iz nr), .int (iz ag1), .int (iz sl1), .long (lz ht1), .long (lz bm1)])), (eA, .inl (G.2 0, 40, .inl (av ec))), (nA, .inl (G.2 3, 30, .inl (bv nm))), (oA, .inl (G.2 0, 30, .inl (av dO))), (tA, .inl (G.2 0, 120, .inl (av t2))), (aA, .inl (G.2 0, 30, .inl (av d2))), (xA, .inl (G.2 0, 30, .inl (av xx)))]) F (c_X5_firstToTurn l G h eA nA oA tA aA xA size naming bs1 ba1 nr ag1 sl1 ht1 bm1 ec nm dO t2 d2 xx ((nl nm dO 30).length : Int) (by omega) (by omega) (by intro i h1 h2; have := hS1.1 i.toNat (by omega); rw [Int.toNat_of_nonneg h1] at this; omega) (by intro i h1 h2; have := TT_rng hw_16 he hnr i h1 h2; omega) (by intro i h1 h2; have := hdr i.toNat (by omega); rw [Int.toNat_of_nonneg h1] at this; omega) _) ext0 gX5_solve_X5_firstToTurn rfl rfl rfl mdv_X5_firstToTurn ⟨Nat.le_of_ble_eq_true rfl, Nat.le_of_ble_eq_true rfl⟩ (va_recv hK.1 (hP.sub (ws' := [(h, .inr (3, [.int (iz size), .int (iz naming), .int (iz bs1), .int (iz ba1), .ref eA, .ref nA, .ref oA, .ref tA, .ref aA, .ref xA, .int (iz nr), .int (iz ag1), .int (iz sl1), .long (lz ht1), .long (lz bm1)])), (eA, .inl (G.2 0, 40, .inl (av ec))), (nA, .inl (G.2 3, 30, .inl (bv nm))), (oA, .inl (G.2 0, 30, .inl (av dO))), (tA, .inl (G.2 0, 120, .inl (av t2))), (aA, .inl (G.2 0, 30, .inl (av d2))), (xA, .inl (G.2 0, 30, .inl (av xx)))]) [0, 1, 2, 3, 4, 5, 6] rfl) (ci := 3) (q0 := 0) rfl rfl) (pre_of ext0 hK hP hD hS hA trivial [0, 1, 2, 3, 4, 5, 6] (by decide) rfl _) rfl hl.1 (Nat.le_of_ble_eq_true rfl) dX5_solve_68 ⟨by decide, by decide⟩) hP hD hS hA [0, 1, 2, 3, 4, 5, 6] [] rfl rfl (by decide) (by decide) (fun r__ u__ H locs hw hP hD hS => ?_)
          obtain ⟨q, rfl⟩ : ∃ z, z = u__ := ⟨_, rfl⟩
          try dsimp only at hw hP hD
          have hw_68 := hw
          have hP := hP.sub (ws' := [(h, .inr (3, [.int (iz size), .int (iz naming), .int (iz bs1), .int (iz ba1), .ref eA, .ref nA, .ref oA, .ref tA, .ref aA, .ref xA, .int (iz nr), .int (iz ag1), .int (iz sl1), .long (lz ht1), .long (lz bm1)])), (eA, .inl (G.2 0, 40, .inl (av ec))), (nA, .inl (G.2 3, 30, .inl (bv nm))), (oA, .inl (G.2 0, 30, .inl (av dO))), (tA, .inl (G.2 0, 120, .inl (av t2))), (aA, .inl (G.2 0, 30, .inl (av d2))), (xA, .inl (G.2 0, 30, .inl (av xx)))]) [0, 1, 2, 3, 4, 5, 6] rfl
          have hD := hD.sub (ws' := [(h, .inr (3, [.int (iz size), .int (iz naming), .int (iz bs1), .int (iz ba1), .ref eA, .ref nA, .ref oA, .ref tA, .ref aA, .ref xA, .int (iz nr), .int (iz ag1), .int (iz sl1), .long (lz ht1), .long (lz bm1)])), (eA, .inl (G.2 0, 40, .inl (av ec))), (nA, .inl (G.2 3, 30, .inl (bv nm))), (oA, .inl (G.2 0, 30, .inl (av dO))), (tA, .inl (G.2 0, 120, .inl (av t2))), (aA, .inl (G.2 0, 30, .inl (av d2))), (xA, .inl (G.2 0, 30, .inl (av xx)))]) [0, 1, 2, 3, 4, 5, 6] (by decide) rfl
          obtain ⟨r_68, rfl⟩ : ∃ z, z = r__ := ⟨_, rfl⟩
          refine zk_topi (y := (iz q)) hw_68.1 ?_
          refine lv_istore (lv' := [(6, .int (iz q)), (0, .ref h), (1, .int (iz nr)), (2, .int (iz ((nl nm dO 30).length : Int))), (3, .int (iz re)), (4, .int (iz ((3 * size) * ((nl nm dO 30).length : Int)))), (5, .int (iz dn))]) hX_ hB_ dX5_solve_71 hl (by decide) rfl (fun ls hl => ?_)
          refine lv_iload hX_ hB_ dX5_solve_73 (lv_at hl 0 rfl) ?_
          refine zk_if_ge (tgt := 79) hX_ hB_ (by omega) dX5_solve_75 (by decide) (fun c_75 => ?_) (fun c_75 => ?_)
          · skip
            obtain ⟨hq0, hq1, hq2, hmin⟩ : 0 ≤ q ∧ q < ((nl nm dO 30).length : Int) ∧ xx q < 3 * size ∧ ∀ i : Int, 0 ≤ i → i < ((nl nm dO 30).length : Int) → xx i < 3 * size → t2 (xx q) - d2 q ≤ t2 (xx i) - d2 i := by rcases hw_68.2 with ⟨z1, z2⟩ | z1; (exfalso; omega); exact z1
            have hxq : 0 ≤ xx q ∧ xx q < 120 := by have := hS1.1 q.toNat (by omega); rw [Int.toNat_of_nonneg hq0] at this; omega
            have htq := TT_rng hw_16 he hnr (xx q) hxq.1 hq2
            have hdq : 0 ≤ d2 q ∧ d2 q ≤ 2000000 := by have := hdr q.toNat (by omega); rwa [Int.toNat_of_nonneg hq0] at this
            have htm : -1000 ≤ t2 (xx q - xx q % 3 + 1) ∧ t2 (xx q - xx q % 3 + 1) ≤ 10001002 := TT_rng hw_16 he hnr (xx q - xx q % 3 + 1) (by omega) (by omega)
            refine lv_aload_n hX_ hB_ dX5_solve_79 rfl (lv_at hl 1 rfl) ?_
            refine va_get (D := G.1) (ci := 3) (v := .ref tA) (C := RX5) (T := TX5) (N := 15) hX_ hB_ hts hi_X5_solve_X5 hown hK.1 hP 0 rfl rfl 7 (by decide) (hts _ hw_X5_solve_520157) (fun _ h9 => h9) rfl dX5_solve_80 ?_
            refine lv_aload_n hX_ hB_ dX5_solve_83 rfl (lv_at hl 1 rfl) ?_
            refine va_get (D := G.1) (ci := 3) (v := .ref xA) (C := RX5) (T := TX5) (N := 15) hX_ hB_ hts hi_X5_solve_X5 hown hK.1 hP 0 rfl rfl 9 (by decide) (hts _ hw_X5_solve_a6b57e) (fun _ h9 => h9) rfl dX5_solve_84 ?_
            refine lv_iload hX_ hB_ dX5_solve_87 (lv_at hl 0 rfl) ?_
            refine zk_iald hX_ hB_ hK.1 hP 6 0 rfl rfl (by omega) (by decide) dX5_solve_89 ?_
            refine zk_iald hX_ hB_ hK.1 hP 4 0 rfl rfl (by omega) (by decide) dX5_solve_90 ?_
            refine lv_aload_n hX_ hB_ dX5_solve_91 rfl (lv_at hl 1 rfl) ?_
            refine va_get (D := G.1) (ci := 3) (v := .ref aA) (C := RX5) (T := TX5) (N := 15) hX_ hB_ hts hi_X5_solve_X5 hown hK.1 hP 0 rfl rfl 8 (by decide) (hts _ hw_X5_solve_069bc0) (fun _ h9 => h9) rfl dX5_solve_92 ?_
            refine lv_iload hX_ hB_ dX5_solve_95 (lv_at hl 0 rfl) ?_
            refine zk_iald hX_ hB_ hK.1 hP 5 0 rfl rfl (by omega) (by decide) dX5_solve_97 ?_
            refine zk_isub hX_ hB_ dX5_solve_98 ?_
            refine lv_istore (lv' := [(7, .int (iz ((t2 (xx q)) - (d2 q)))), (6, .int (iz q)), (0, .ref h), (1, .int (iz nr)), (2, .int (iz ((nl nm dO 30).length : Int))), (3, .int (iz re)), (4, .int (iz ((3 * size) * ((nl nm dO 30).length : Int)))), (5, .int (iz dn))]) hX_ hB_ dX5_solve_99 hl (by decide) rfl (fun ls hl => ?_)
            have join_125 : ∀ (ba4 : Int) (bm4 : Int) (bs4 : Int), (Dm (agF ds nr (nl nm dO 30)) (smF ds nr (nl nm dO 30)) (fun X => X < (t2 (xx q) - d2 q)) (t2 (xx q) - d2 q) ba4 bm4 bs4) → (R63 bm4) → (0 ≤ ba4 ∧ ba4 ≤ 1000) → (dn < (3 * size) * ((nl nm dO 30).length : Int)) → ∀ (H : Heap) (locs : List Loc), va_P G.1 vwCl [(h, .inr (3, [.int (iz size), .int (iz naming), .int (iz bs4), .int (iz ba4), .ref eA, .ref nA, .ref oA, .ref tA, .ref aA, .ref xA, .int (iz nr), .int (iz ag1), .int (iz sl1), .long (lz ht1), .long (lz bm4)])), (eA, .inl (G.2 0, 40, .inl (av ec))), (nA, .inl (G.2 3, 30, .inl (bv nm))), (oA, .inl (G.2 0, 30, .inl (av dO))), (tA, .inl (G.2 0, 120, .inl (av t2))), (aA, .inl (G.2 0, 30, .inl (av d2))), (xA, .inl (G.2 0, 30, .inl (av xx)))] H → va_D A [(h, .inr (3, [.int (iz size), .int (iz naming), .int (iz bs4), .int (iz ba4), .ref eA, .ref nA, .ref oA, .ref tA, .ref aA, .ref xA, .int (iz nr), .int (iz ag1), .int (iz sl1), .long (lz ht1), .long (lz bm4)])), (eA, .inl (G.2 0, 40, .inl (av ec))), (nA, .inl (G.2 3, 30, .inl (bv nm))), (oA, .inl (G.2 0, 30, .inl (av dO))), (tA, .inl (G.2 0, 120, .inl (av t2))), (aA, .inl (G.2 0, 30, .inl (av d2))), (xA, .inl (G.2 0, 30, .inl (av xx)))] → va_S A s.heap H locs → ∀ ls : Array Slot, lv_has ls 8 [(0, .ref h), (1, .int (iz nr)), (2, .int (iz ((nl nm dO 30).length : Int))), (3, .int (iz re)), (4, .int (iz ((3 * size) * ((nl nm dO 30).length : Int)))), (5, .int (iz dn)), (6, .int (iz q)), (7, .int (iz ((t2 (xx q)) - (d2 q))))] → W p l e ({ frames := 2, cells := 0, slots := 0, locals := 45 }) s m ([.ref h, .int (iz nr)] : List Value).toArray below meth c H locs 0 0 (MQ below (va_Qv (fun (u : Int × Int × Int × Int × Int × Int × (Int → Int) × (Int → Int) × (Int → Int)) => match u with | (ba2, bs2, ag2, sl2, ht2, bm2, t2, d2, x2) => Opt ds nr (nl nm dO 30) ba2 bs2 ∧ R63 bm2) (fun u__ t__ => Pst G A ((fun u : Int × Int × Int × Int × Int × Int × (Int → Int) × (Int → Int) × (Int → Int) => match u with | (ba2, bs2, ag2, sl2, ht2, bm2, t2, d2, x2) => [(h, .inr (3, [.int (iz size), .int (iz naming), .int (iz bs2), .int (iz ba2), .ref eA, .ref nA, .ref oA, .ref tA, .ref aA, .ref xA, .int (iz nr), .int (iz ag2), .int (iz sl2), .long (lz ht2), .long (lz bm2)])), (eA, .inl (G.2 0, 40, .inl (av ec))), (nA, .inl (G.2 3, 30, .inl (bv nm))), (oA, .inl (G.2 0, 30, .inl (av dO))), (tA, .inl (G.2 0, 120, .inl (av t2))), (aA, .inl (G.2 0, 30, .inl (av d2))), (xA, .inl (G.2 0, 30, .inl (av x2)))]) u__) t__) A) ([.ref h, .int (iz nr)] : List Value).toArray s 0 0 A) (F0 m 125 ls []) := by
              intro ba4 bm4 bs4 hB4 hbm4 hba4 hdlt H locs hP hD hS ls hl
              refine lv_iload hX_ hB_ dX5_solve_125 (lv_at hl 7 rfl) ?_
              refine lv_istore_n (lv' := [(3, .int (iz ((t2 (xx q)) - (d2 q)))), (0, .ref h), (1, .int (iz nr)), (2, .int (iz ((nl nm dO 30).length : Int))), (4, .int (iz ((3 * size) * ((nl nm dO 30).length : Int)))), (5, .int (iz dn)), (6, .int (iz q)), (7, .int (iz ((t2 (xx q)) - (d2 q))))]) hX_ hB_ dX5_solve_127 rfl hl (by decide) rfl (fun ls hl => ?_)
              refine lv_aload_n hX_ hB_ dX5_solve_128 rfl (lv_at hl 1 rfl) ?_
              refine lv_iload hX_ hB_ dX5_solve_129 (lv_at hl 6 rfl) ?_
              refine back_v (wr := []) (run_V (As := [.int (iz q)]) (rest := []) (wc := [(h, .inr (3, [.int (iz size), .int (iz naming), .int (iz bs4), .int (iz ba4), .ref eA, .ref nA, .ref oA, .ref tA, .ref aA, .ref xA, .int (iz nr), .int (iz ag1), .int (iz sl1), .long (lz ht1), .long (lz bm4)])), (eA, .inl (G.2 0, 40, .inl (av ec))), (nA, .inl (G.2 3, 30, .inl (bv nm))), (oA, .inl (G.2 0, 30, .inl (av dO))), (tA, .inl (G.2 0, 120, .inl (av t2))), (aA, .inl (G.2 0, 30, .inl (av d2))), (xA, .inl (G.2 0, 30, .inl (av xx)))]) F (c_X5_turn l G h eA nA oA tA aA xA size naming bs4 ba4 nr ag1 sl1 ht1 bm4 ec nm dO t2 d2 xx q (by omega) (by omega) (by omega) _) ext0 gX5_solve_X5_turn rfl rfl rfl mdv_X5_turn ⟨Nat.le_of_ble_eq_true rfl, Nat.le_of_ble_eq_true rfl⟩ (va_recv hK.1 (hP.sub (ws' := [(h, .inr (3, [.int (iz size), .int (iz naming), .int (iz bs4), .int (iz ba4), .ref eA, .ref nA, .ref oA, .ref tA, .ref aA, .ref xA, .int (iz nr), .int (iz ag1), .int (iz sl1), .long (lz ht1), .long (lz bm4)])), (eA, .inl (G.2 0, 40, .inl (av ec))), (nA, .inl (G.2 3, 30, .inl (bv nm))), (oA, .inl (G.2 0, 30, .inl (av dO))), (tA, .inl (G.2 0, 120, .inl (av t2))), (aA, .inl (G.2 0, 30, .inl (av d2))), (xA, .inl (G.2 0, 30, .inl (av xx)))]) [0, 1, 2, 3, 4, 5, 6] rfl) (ci := 3) (q0 := 0) rfl rfl) (pre_of ext0 hK hP hD hS hA trivial [0, 1, 2, 3, 4, 5, 6] (by decide) rfl _) rfl hl.1 (Nat.le_of_ble_eq_true rfl) dX5_solve_131 ⟨by decide, by decide⟩) hP hD hS hA [0, 1, 2, 3, 4, 5, 6] [] rfl rfl (by decide) (by decide) (fun u__ H locs hw hP hD hS => ?_)
              have hw_131 := hw
              have hP := hP.sub (ws' := [(h, .inr (3, [.int (iz size), .int (iz naming), .int (iz bs4), .int (iz ba4), .ref eA, .ref nA, .ref oA, .ref tA, .ref aA, .ref xA, .int (iz nr), .int (iz (if xx q % 3 = 1 then ag1 else ag1 + (if xx q % 3 = 0 then 1 else -1))), .int (iz (if xx q % 3 = 1 then sl1 + 2 else sl1 - 1)), .long (lz (if xx q % 3 = 1 then ht1 - 2 * (t2 (xx q - xx q % 3 + 1) - d2 q) else ht1 + (t2 (xx q - xx q % 3 + 1) - d2 q))), .long (lz bm4)])), (eA, .inl (G.2 0, 40, .inl (av ec))), (nA, .inl (G.2 3, 30, .inl (bv nm))), (oA, .inl (G.2 0, 30, .inl (av dO))), (tA, .inl (G.2 0, 120, .inl (av t2))), (aA, .inl (G.2 0, 30, .inl (av d2))), (xA, .inl (G.2 0, 30, .inl (av (us xx q (xx q + 1)))))]) [0, 1, 2, 3, 4, 5, 6] rfl
              have hD := hD.sub (ws' := [(h, .inr (3, [.int (iz size), .int (iz naming), .int (iz bs4), .int (iz ba4), .ref eA, .ref nA, .ref oA, .ref tA, .ref aA, .ref xA, .int (iz nr), .int (iz (if xx q % 3 = 1 then ag1 else ag1 + (if xx q % 3 = 0 then 1 else -1))), .int (iz (if xx q % 3 = 1 then sl1 + 2 else sl1 - 1)), .long (lz (if xx q % 3 = 1 then ht1 - 2 * (t2 (xx q - xx q % 3 + 1) - d2 q) else ht1 + (t2 (xx q - xx q % 3 + 1) - d2 q))), .long (lz bm4)])), (eA, .inl (G.2 0, 40, .inl (av ec))), (nA, .inl (G.2 3, 30, .inl (bv nm))), (oA, .inl (G.2 0, 30, .inl (av dO))), (tA, .inl (G.2 0, 120, .inl (av t2))), (aA, .inl (G.2 0, 30, .inl (av d2))), (xA, .inl (G.2 0, 30, .inl (av (us xx q (xx q + 1)))))]) [0, 1, 2, 3, 4, 5, 6] (by decide) rfl
              refine lv_iinc (v := (iz (dn + 1))) (lv' := [(5, .int (iz (dn + 1))), (3, .int (iz ((t2 (xx q)) - (d2 q)))), (0, .ref h), (1, .int (iz nr)), (2, .int (iz ((nl nm dO 30).length : Int))), (4, .int (iz ((3 * size) * ((nl nm dO 30).length : Int)))), (6, .int (iz q)), (7, .int (iz ((t2 (xx q)) - (d2 q))))]) hX_ hB_ dX5_solve_134 hl (k := 5) rfl (iz_add _ _) (by decide) rfl (fun ls hl => ?_)
              refine lv_goto (tgt := 59) hX_ hB_ dX5_solve_137 (by decide) ?_
              exact ih_59 (dn + 1) ((t2 (xx q)) - (d2 q)) (if xx q % 3 = 1 then ag1 else ag1 + (if xx q % 3 = 0 then 1 else -1)) (if xx q % 3 = 1 then sl1 + 2 else sl1 - 1) (if xx q % 3 = 1 then ht1 - 2 * (t2 (xx q - xx q % 3 + 1) - d2 q) else ht1 + (t2 (xx q - xx q % 3 + 1) - d2 q)) bm4 ba4 bs4 (us xx q (xx q + 1)) (by omega) (by exact swp_turnZ hw_16 hso hnr.1 hS1 ⟨hq0, hq1⟩ hq2 hmin) (by right; exact ⟨by omega, hB4⟩) (by omega) (by exact hbm4) (by exact hba4) (by omega) _ _ hP hD hS ls (lv_sub hl [2, 3, 4, 1, 5, 0] rfl)
            refine lv_iload hX_ hB_ dX5_solve_101 (lv_at hl 7 rfl) ?_
            refine zk_if_le (tgt := 125) hX_ hB_ (by omega) dX5_solve_103 (by decide) (fun c_103 => ?_) (fun c_103 => ?_)
            · skip
              exact join_125 ba1 bm1 bs1 (by rcases hB1 with ⟨z1, z2⟩ | ⟨z1, z2⟩; exact dm_first hw_16 hso hds hw_20.2.1 hS1 z1 z2 hmin; (exfalso; omega)) (by exact hbm1) (by exact hba1) (by omega) _ _ hP hD hS ls (lv_sub hl [2, 3, 4, 5, 6, 7, 1, 0] rfl)
            · skip
              refine lv_iload hX_ hB_ dX5_solve_106 (lv_at hl 0 rfl) ?_
              refine lv_iload_n hX_ hB_ dX5_solve_108 rfl (lv_at hl 5 rfl) ?_
              refine zk_icmp_le (tgt := 125) hX_ hB_ (by omega) (by omega) dX5_solve_109 (by decide) (fun c_109 => ?_) (fun c_109 => ?_)
              · skip
                exact join_125 ba1 bm1 bs1 (by rcases hB1 with ⟨z1, z2⟩ | ⟨z1, z2⟩; (exfalso; omega); (have z3 := hS1.2.2.2.2.2.2 z1 q.toNat (by omega) (by rw [Int.toNat_of_nonneg hq0]; exact hq2); rw [Int.toNat_of_nonneg hq0] at z3; have z4 : (t2 (xx q) - d2 q) = re := (by omega); rw [z4]; exact z2)) (by exact hbm1) (by exact hba1) (by omega) _ _ hP hD hS ls (lv_sub hl [2, 3, 4, 5, 6, 7, 1, 0] rfl)
              · skip
                have hp1 := mul_ab (a := sl1) (b := re) (A := 30) (B := 13000000) (by omega) (by omega) (by omega) (by omega) (by omega) (by omega)
                have hp2 := mul_ab (a := sl1) (b := (t2 (xx q) - d2 q) - 1) (A := 30) (B := 13000000) (by omega) (by omega) (by omega) (by omega) (by omega) (by omega)
                refine lv_aload_n hX_ hB_ dX5_solve_112 rfl (lv_at hl 2 rfl) ?_
                refine lv_iload_n hX_ hB_ dX5_solve_113 rfl (lv_at hl 5 rfl) ?_
                refine back_v (wr := []) (run_V (As := [.int (iz re)]) (rest := []) (wc := [(h, .inr (3, [.int (iz size), .int (iz naming), .int (iz bs1), .int (iz ba1), .ref eA, .ref nA, .ref oA, .ref tA, .ref aA, .ref xA, .int (iz nr), .int (iz ag1), .int (iz sl1), .long (lz ht1), .long (lz bm1)])), (eA, .inl (G.2 0, 40, .inl (av ec))), (nA, .inl (G.2 3, 30, .inl (bv nm))), (oA, .inl (G.2 0, 30, .inl (av dO))), (tA, .inl (G.2 0, 120, .inl (av t2))), (aA, .inl (G.2 0, 30, .inl (av d2))), (xA, .inl (G.2 0, 30, .inl (av xx)))]) F (c_X5_consider l G h eA nA oA tA aA xA size naming bs1 ba1 nr ag1 sl1 ht1 bm1 ec nm dO t2 d2 xx re (by omega) (by omega) _) ext0 gX5_solve_X5_consider rfl rfl rfl mdv_X5_consider ⟨Nat.le_of_ble_eq_true rfl, Nat.le_of_ble_eq_true rfl⟩ (va_recv hK.1 (hP.sub (ws' := [(h, .inr (3, [.int (iz size), .int (iz naming), .int (iz bs1), .int (iz ba1), .ref eA, .ref nA, .ref oA, .ref tA, .ref aA, .ref xA, .int (iz nr), .int (iz ag1), .int (iz sl1), .long (lz ht1), .long (lz bm1)])), (eA, .inl (G.2 0, 40, .inl (av ec))), (nA, .inl (G.2 3, 30, .inl (bv nm))), (oA, .inl (G.2 0, 30, .inl (av dO))), (tA, .inl (G.2 0, 120, .inl (av t2))), (aA, .inl (G.2 0, 30, .inl (av d2))), (xA, .inl (G.2 0, 30, .inl (av xx)))]) [0, 1, 2, 3, 4, 5, 6] rfl) (ci := 3) (q0 := 0) rfl rfl) (pre_of ext0 hK hP hD hS hA trivial [0, 1, 2, 3, 4, 5, 6] (by decide) rfl _) rfl hl.1 (Nat.le_of_ble_eq_true rfl) dX5_solve_114 ⟨by decide, by decide⟩) hP hD hS hA [0, 1, 2, 3, 4, 5, 6] [] rfl rfl (by decide) (by decide) (fun u__ H locs hw hP hD hS => ?_)
                have hw_114 := hw
                have hP := hP.sub (ws' := [(h, .inr (3, [.int (iz size), .int (iz naming), .int (iz (if (ba1 < ag1 ∨ ag1 = ba1 ∧ ht1 + sl1 * re < bm1) then re else bs1)), .int (iz (if (ba1 < ag1 ∨ ag1 = ba1 ∧ ht1 + sl1 * re < bm1) then ag1 else ba1)), .ref eA, .ref nA, .ref oA, .ref tA, .ref aA, .ref xA, .int (iz nr), .int (iz ag1), .int (iz sl1), .long (lz ht1), .long (lz (if (ba1 < ag1 ∨ ag1 = ba1 ∧ ht1 + sl1 * re < bm1) then ht1 + sl1 * re else bm1))])), (eA, .inl (G.2 0, 40, .inl (av ec))), (nA, .inl (G.2 3, 30, .inl (bv nm))), (oA, .inl (G.2 0, 30, .inl (av dO))), (tA, .inl (G.2 0, 120, .inl (av t2))), (aA, .inl (G.2 0, 30, .inl (av d2))), (xA, .inl (G.2 0, 30, .inl (av xx)))]) [0, 1, 2, 3, 4, 5, 6] rfl
                have hD := hD.sub (ws' := [(h, .inr (3, [.int (iz size), .int (iz naming), .int (iz (if (ba1 < ag1 ∨ ag1 = ba1 ∧ ht1 + sl1 * re < bm1) then re else bs1)), .int (iz (if (ba1 < ag1 ∨ ag1 = ba1 ∧ ht1 + sl1 * re < bm1) then ag1 else ba1)), .ref eA, .ref nA, .ref oA, .ref tA, .ref aA, .ref xA, .int (iz nr), .int (iz ag1), .int (iz sl1), .long (lz ht1), .long (lz (if (ba1 < ag1 ∨ ag1 = ba1 ∧ ht1 + sl1 * re < bm1) then ht1 + sl1 * re else bm1))])), (eA, .inl (G.2 0, 40, .inl (av ec))), (nA, .inl (G.2 3, 30, .inl (bv nm))), (oA, .inl (G.2 0, 30, .inl (av dO))), (tA, .inl (G.2 0, 120, .inl (av t2))), (aA, .inl (G.2 0, 30, .inl (av d2))), (xA, .inl (G.2 0, 30, .inl (av xx)))]) [0, 1, 2, 3, 4, 5, 6] (by decide) rfl
                obtain ⟨b3, eb3⟩ : ∃ z : Int, z = if (ba1 < ag1 ∨ ag1 = ba1 ∧ ht1 + sl1 * re < bm1) then ag1 else ba1 := ⟨_, rfl⟩
                obtain ⟨m3, em3⟩ : ∃ z : Int, z = if (ba1 < ag1 ∨ ag1 = ba1 ∧ ht1 + sl1 * re < bm1) then ht1 + sl1 * re else bm1 := ⟨_, rfl⟩
                obtain ⟨s3, es3⟩ : ∃ z : Int, z = if (ba1 < ag1 ∨ ag1 = ba1 ∧ ht1 + sl1 * re < bm1) then re else bs1 := ⟨_, rfl⟩
                have hb3 : 0 ≤ b3 ∧ b3 ≤ 1000 := by rw [eb3]; split <;> omega
                have hm3 : R63 m3 := by rw [em3]; split <;> omega
                have e_rep : (if (ba1 < ag1 ∨ ag1 = ba1 ∧ ht1 + sl1 * re < bm1) then ag1 else ba1) = b3 := eb3.symm
                rw [e_rep] at hP hD
                have e_rep : (if (ba1 < ag1 ∨ ag1 = ba1 ∧ ht1 + sl1 * re < bm1) then ht1 + sl1 * re else bm1) = m3 := em3.symm
                rw [e_rep] at hP hD
                have e_rep : (if (ba1 < ag1 ∨ ag1 = ba1 ∧ ht1 + sl1 * re < bm1) then re else bs1) = s3 := es3.symm
                rw [e_rep] at hP hD
                refine lv_aload_n hX_ hB_ dX5_solve_117 rfl (lv_at hl 2 rfl) ?_
                refine lv_iload hX_ hB_ dX5_solve_118 (lv_at hl 0 rfl) ?_
                refine zk_iconst hX_ hB_ dX5_solve_120 ?_
                refine zk_isub hX_ hB_ dX5_solve_121 ?_
                refine back_v (wr := []) (run_V (As := [.int (iz (((t2 (xx q)) - (d2 q)) - 1))]) (rest := []) (wc := [(h, .inr (3, [.int (iz size), .int (iz naming), .int (iz s3), .int (iz b3), .ref eA, .ref nA, .ref oA, .ref tA, .ref aA, .ref xA, .int (iz nr), .int (iz ag1), .int (iz sl1), .long (lz ht1), .long (lz m3)])), (eA, .inl (G.2 0, 40, .inl (av ec))), (nA, .inl (G.2 3, 30, .inl (bv nm))), (oA, .inl (G.2 0, 30, .inl (av dO))), (tA, .inl (G.2 0, 120, .inl (av t2))), (aA, .inl (G.2 0, 30, .inl (av d2))), (xA, .inl (G.2 0, 30, .inl (av xx)))]) F (c_X5_consider l G h eA nA oA tA aA xA size naming s3 b3 nr ag1 sl1 ht1 m3 ec nm dO t2 d2 xx (((t2 (xx q)) - (d2 q)) - 1) (by omega) (by omega) _) ext0 gX5_solve_X5_consider rfl rfl rfl mdv_X5_consider ⟨Nat.le_of_ble_eq_true rfl, Nat.le_of_ble_eq_true rfl⟩ (va_recv hK.1 (hP.sub (ws' := [(h, .inr (3, [.int (iz size), .int (iz naming), .int (iz s3), .int (iz b3), .ref eA, .ref nA, .ref oA, .ref tA, .ref aA, .ref xA, .int (iz nr), .int (iz ag1), .int (iz sl1), .long (lz ht1), .long (lz m3)])), (eA, .inl (G.2 0, 40, .inl (av ec))), (nA, .inl (G.2 3, 30, .inl (bv nm))), (oA, .inl (G.2 0, 30, .inl (av dO))), (tA, .inl (G.2 0, 120, .inl (av t2))), (aA, .inl (G.2 0, 30, .inl (av d2))), (xA, .inl (G.2 0, 30, .inl (av xx)))]) [0, 1, 2, 3, 4, 5, 6] rfl) (ci := 3) (q0 := 0) rfl rfl) (pre_of ext0 hK hP hD hS hA trivial [0, 1, 2, 3, 4, 5, 6] (by decide) rfl _) rfl hl.1 (Nat.le_of_ble_eq_true rfl) dX5_solve_122 ⟨by decide, by decide⟩) hP hD hS hA [0, 1, 2, 3, 4, 5, 6] [] rfl rfl (by decide) (by decide) (fun u__ H locs hw hP hD hS => ?_)
                have hw_122 := hw
                have hP := hP.sub (ws' := [(h, .inr (3, [.int (iz size), .int (iz naming), .int (iz (if (b3 < ag1 ∨ ag1 = b3 ∧ ht1 + sl1 * (((t2 (xx q)) - (d2 q)) - 1) < m3) then (((t2 (xx q)) - (d2 q)) - 1) else s3)), .int (iz (if (b3 < ag1 ∨ ag1 = b3 ∧ ht1 + sl1 * (((t2 (xx q)) - (d2 q)) - 1) < m3) then ag1 else b3)), .ref eA, .ref nA, .ref oA, .ref tA, .ref aA, .ref xA, .int (iz nr), .int (iz ag1), .int (iz sl1), .long (lz ht1), .long (lz (if (b3 < ag1 ∨ ag1 = b3 ∧ ht1 + sl1 * (((t2 (xx q)) - (d2 q)) - 1) < m3) then ht1 + sl1 * (((t2 (xx q)) - (d2 q)) - 1) else m3))])), (eA, .inl (G.2 0, 40, .inl (av ec))), (nA, .inl (G.2 3, 30, .inl (bv nm))), (oA, .inl (G.2 0, 30, .inl (av dO))), (tA, .inl (G.2 0, 120, .inl (av t2))), (aA, .inl (G.2 0, 30, .inl (av d2))), (xA, .inl (G.2 0, 30, .inl (av xx)))]) [0, 1, 2, 3, 4, 5, 6] rfl
                have hD := hD.sub (ws' := [(h, .inr (3, [.int (iz size), .int (iz naming), .int (iz (if (b3 < ag1 ∨ ag1 = b3 ∧ ht1 + sl1 * (((t2 (xx q)) - (d2 q)) - 1) < m3) then (((t2 (xx q)) - (d2 q)) - 1) else s3)), .int (iz (if (b3 < ag1 ∨ ag1 = b3 ∧ ht1 + sl1 * (((t2 (xx q)) - (d2 q)) - 1) < m3) then ag1 else b3)), .ref eA, .ref nA, .ref oA, .ref tA, .ref aA, .ref xA, .int (iz nr), .int (iz ag1), .int (iz sl1), .long (lz ht1), .long (lz (if (b3 < ag1 ∨ ag1 = b3 ∧ ht1 + sl1 * (((t2 (xx q)) - (d2 q)) - 1) < m3) then ht1 + sl1 * (((t2 (xx q)) - (d2 q)) - 1) else m3))])), (eA, .inl (G.2 0, 40, .inl (av ec))), (nA, .inl (G.2 3, 30, .inl (bv nm))), (oA, .inl (G.2 0, 30, .inl (av dO))), (tA, .inl (G.2 0, 120, .inl (av t2))), (aA, .inl (G.2 0, 30, .inl (av d2))), (xA, .inl (G.2 0, 30, .inl (av xx)))]) [0, 1, 2, 3, 4, 5, 6] (by decide) rfl
                exact join_125 (if (b3 < ag1 ∨ ag1 = b3 ∧ ht1 + sl1 * (((t2 (xx q)) - (d2 q)) - 1) < m3) then ag1 else b3) (if (b3 < ag1 ∨ ag1 = b3 ∧ ht1 + sl1 * (((t2 (xx q)) - (d2 q)) - 1) < m3) then ht1 + sl1 * (((t2 (xx q)) - (d2 q)) - 1) else m3) (if (b3 < ag1 ∨ ag1 = b3 ∧ ht1 + sl1 * (((t2 (xx q)) - (d2 q)) - 1) < m3) then (((t2 (xx q)) - (d2 q)) - 1) else s3) (by rcases hB1 with ⟨z1, z2⟩ | ⟨z1, z2⟩; (exfalso; omega); exact dm_two hw_16 hso hds hw_20.2.1 hS1 c_109 hmin z2 (by omega) eb3 em3 es3 rfl rfl rfl) (by split <;> omega) (by split <;> omega) (by omega) _ _ hP hD hS ls (lv_sub hl [2, 3, 4, 5, 6, 7, 1, 0] rfl)
          · skip
            exact absurd (by rcases hw_68.2 with ⟨z1, z2⟩ | z1; exact z2; (exfalso; omega)) (swp_some hS1 (by omega))
    exact loop_59 _ 0 0 0 0 0 bm 0 bs x0 (by omega) (by exact swp_init (by omega) hw_20.2.2 0) (by left; exact ⟨rfl, rfl⟩) (by omega) (by exact hbm) (by omega) (Nat.lt_succ_self _) _ _ hP hD hS ls (lv_sub hl [4, 5, 3, 2, 1, 0] rfl)
  · skip
    rw [c_5] at hP hD
    exact fin_v (wf := (fun u : Int × Int × Int × Int × Int × Int × (Int → Int) × (Int → Int) × (Int → Int) => match u with | (ba2, bs2, ag2, sl2, ht2, bm2, t2, d2, x2) => [(h, .inr (3, [.int (iz size), .int (iz naming), .int (iz bs2), .int (iz ba2), .ref eA, .ref nA, .ref oA, .ref tA, .ref aA, .ref xA, .int (iz nr), .int (iz ag2), .int (iz sl2), .long (lz ht2), .long (lz bm2)])), (eA, .inl (G.2 0, 40, .inl (av ec))), (nA, .inl (G.2 3, 30, .inl (bv nm))), (oA, .inl (G.2 0, 30, .inl (av dO))), (tA, .inl (G.2 0, 120, .inl (av t2))), (aA, .inl (G.2 0, 30, .inl (av d2))), (xA, .inl (G.2 0, 30, .inl (av x2)))])) (ba, bs, ag, sl, ht, bm, t, d, x) F hP hD hK hS (by decide) (by decide) dX5_solve_8 (by exact ⟨hca c_5, hbm⟩)
