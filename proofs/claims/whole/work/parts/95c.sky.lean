
theorem isD_ex {g : Int → Int} {d : Int} : ∀ n : Nat, ∃ v : Int, isD g ((n : Int) + 1) d v
  | 0 => ⟨iabs (d - g 0), ⟨0, by omega, by omega, rfl⟩, fun k h0 h1 => by rw [show k = 0 from by omega]; exact Int.le_refl _⟩
  | n + 1 => by
    obtain ⟨v, ⟨k, k0, k1, k2⟩, hv⟩ := isD_ex (g := g) (d := d) n
    by_cases q : iabs (d - g ((n : Int) + 1)) ≤ v
    · refine ⟨_, ⟨(n : Int) + 1, by omega, by omega, rfl⟩, fun j h0 h1 => ?_⟩
      by_cases e : j = (n : Int) + 1
      · rw [e]; exact Int.le_refl _
      · exact Int.le_trans q (hv j h0 (by omega))
    · refine ⟨v, ⟨k, k0, by omega, k2⟩, fun j h0 h1 => ?_⟩
      by_cases e : j = (n : Int) + 1
      · rw [e]; omega
      · exact hv j h0 (by omega)
theorem isD_ds {g : Int → Int} {n : Int} (h : 1 ≤ n) : ∃ ds : Int → Int, ∀ z : Int, isD g n z (ds z) := by
  have hx : ∀ z : Int, ∃ v : Int, isD g n z v := fun z => by
    have := isD_ex (g := g) (d := z) (n - 1).toNat
    rwa [show (((n - 1).toNat : Nat) : Int) + 1 = n from by omega] at this
  exact ⟨fun z => Classical.choose (hx z), fun z => Classical.choose_spec (hx z)⟩
theorem isD_mem {g f : Int → Int} {n d v : Int} (h : ∀ z : Int, mem g n z ↔ mem f n z) (hd : isD g n d v) : isD f n d v := by
  obtain ⟨⟨k, k0, k1, k2⟩, hv⟩ := hd
  refine ⟨?_, fun j h0 h1 => ?_⟩
  · obtain ⟨i, i0, i1, i2⟩ := (h (g k)).mp ⟨k, k0, k1, rfl⟩
    exact ⟨i, i0, i1, by rw [i2]; exact k2⟩
  · obtain ⟨i, i0, i1, i2⟩ := (h (f j)).mpr ⟨j, h0, h1, rfl⟩
    rw [← i2]
    exact hv i i0 i1
theorem nl_cong2 {nm : Int → Bool} {f g : Int → Int} : ∀ n : Nat, (∀ j : Int, nm j = true → f j = g j) → nl nm f n = nl nm g n
  | 0, _ => rfl
  | n + 1, h => by
    unfold nl
    rw [nl_cong2 n h]
    cases q : nm (n : Int) with
    | false => rfl
    | true => rw [h _ q]
theorem nl_tail {nm : Int → Bool} {f : Int → Int} {m : Nat} (h : ∀ j : Int, nm j = true → j < m) : ∀ k : Nat, nl nm f (m + k) = nl nm f m
  | 0 => rfl
  | k + 1 => by
    show nl nm f (m + k) ++ _ = _
    rw [nl_tail h k]
    cases q : nm ((m + k : Nat) : Int) with
    | false => exact List.append_nil _
    | true => have := h _ q; omega
section Sk
variable {tc sc : Int} {bs : Int → Int} {sa : Int → Option Nat} {so : Int → Nat} {sb mm : Int → Int} {sts : Int → Int → Int32} {Ls : Int → List Int} {fs : Int → SS} {lo hi : Int → Int64} {to dy : Int → Int} {zs naming ssn sba sbs sbm : Int} {ec mec dO : Int → Int} {nm : Int → Bool}
theorem LSky_nl (h : LSky sc mm dy zs naming ssn sba sbs sbm ec nm dO mec) (hsc : 0 ≤ sc ∧ sc ≤ 30) : nl nm dO 30 = nl nm (dd0 dy) sc.toNat := by
  have h6 := h.2.2.2.2.2.1
  rw [nl_cong2 (g := dd0 dy) 30 (fun j hj => (h6 j hj).2.2)]
  have e := nl_tail (nm := nm) (f := dd0 dy) (m := sc.toNat) (fun j hj => by have := (h6 j hj).1; omega) (30 - sc.toNat)
  rwa [show sc.toNat + (30 - sc.toNat) = 30 from by omega] at e
theorem LSky_dy (h : LSky sc mm dy zs naming ssn sba sbs sbm ec nm dO mec) (hS : LStn tc sc bs sa so sb mm sts Ls fs lo hi to dy) : ∀ s : Int, 0 ≤ s → s < sc → nm s = true → 0 ≤ dy (300 * s) ∧ dy (300 * s) ≤ 2000000 := by
  intro s h0 h1 hn
  obtain ⟨l1, l2, -⟩ := LStn_Ls hS h0 h1
  have hm := (h.2.2.2.2.2.1 s hn).2.1
  have e := l2 0 (by rw [hm] at l1; simp at l1; omega)
  rw [show (300 * s + ((0 : Nat) : Int)) = 300 * s from by omega] at e
  omega
theorem LSky_do (h : LSky sc mm dy zs naming ssn sba sbs sbm ec nm dO mec) (hS : LStn tc sc bs sa so sb mm sts Ls fs lo hi to dy) : ∀ k : Nat, k < (nl nm dO 30).length → 0 ≤ (nl nm dO 30).getD k 0 ∧ (nl nm dO 30).getD k 0 ≤ 2000000 := by
  intro k hk
  obtain ⟨s, s0, s1, s2, s3⟩ := nl_mem 30 k hk
  have h6 := h.2.2.2.2.2.1 s s2
  rw [s3, h6.2.2]
  exact LSky_dy h hS s h6.1.1 h6.1.2 s2
theorem LSky_ng (h : LSky sc mm dy zs naming ssn sba sbs sbm ec nm dO mec) : 0 ≤ naming ∧ naming ≤ 30 := by
  have := h.2.2.2.2.2.2.1
  have := nl_le (nm := nm) (dO := dO) 30
  omega
theorem LSky_best {nr b1 b2 b3 : Int} {ds : Int → Int} (h : LSky sc mm dy zs naming ssn sba sbs sbm ec nm dO mec) (hd : ∀ z : Int, isD ec zs z (ds z)) (ho : Opt ds nr (nl nm dO 30) b1 b2) (hn : R31 nr) (hb : R63 b3) : LSky sc mm dy zs naming nr b1 b2 b3 ec nm dO mec := by
  obtain ⟨a1, a2, a3, a4, a5, a6, a7, a8, a9⟩ := h
  refine ⟨a1, a2, a3, a4, a5, a6, a7, ⟨hn, hb⟩, fun ds2 nr2 q1 _ _ q2 _ => ?_⟩
  have e : ds2 = ds := funext fun z => isD_uniq (q1 z) (hd z)
  rw [e, ← q2]
  exact ho
end Sk

set_option maxHeartbeats 4000000 in
set_option maxRecDepth 100000 in
theorem c_X8_solveSky_x (l : Launch) (G : GG) (hl0 : l.stackTraces = false) (ga : Nat → Nat) (h : Nat) (bA : Nat) (stA : Nat) (rd_ : Nat) (fi : Nat) (nt : Nat) (ks : Nat) (tc : Int) (sc : Int) (eA : Nat) (nA : Nat) (oA : Nat) (tA : Nat) (aA : Nat) (xA : Nat) (size : Int) (naming : Int) (bs : Int) (ba : Int) (sn : Int) (ag : Int) (sl : Int) (ht : Int) (bm : Int) (nr : Int) (hnr0 : R31 nr) (hxx : ¬ ((0 ≤ nr ∧ nr ≤ 1000) ∧ 1 ≤ size ∧ 1 ≤ naming)) (hzz : 0 ≤ size ∧ size ≤ 40) (hng : 0 ≤ naming ∧ naming ≤ 30) : Xc l yX8_solveSky wsX8_solveSky ({ frames := 6, cells := 2, slots := 12, locals := 90 }) G (ThE ga) [.ref h, .int (iz nr)] [(h, .inr (6, [.ref bA, .ref stA, .ref rd_, .ref fi, .ref nt, .ref ks, .int (iz tc), .int (iz sc)])), (ks, .inr (3, [.int (iz size), .int (iz naming), .int (iz bs), .int (iz ba), .ref eA, .ref nA, .ref oA, .ref tA, .ref aA, .ref xA, .int (iz sn), .int (iz ag), .int (iz sl), .long (lz ht), .long (lz bm)]))] 2 12 (Qkv G (fun _ : Unit => [(h, .inr (6, [.ref bA, .ref stA, .ref rd_, .ref fi, .ref nt, .ref ks, .int (iz tc), .int (iz sc)])), (ks, .inr (3, [.int (iz size), .int (iz naming), .int (iz bs), .int (iz ba), .ref eA, .ref nA, .ref oA, .ref tA, .ref aA, .ref xA, .int (iz sn), .int (iz ag), .int (iz sl), .long (lz ht), .long (lz bm)]))]) (fun (_ : Unit) => False)) (fun En : String => (¬ (0 ≤ nr ∧ nr ≤ 1000) ∧ En = "java/lang/IllegalArgumentException") ∨ ((0 ≤ nr ∧ nr ≤ 1000) ∧ (size = 0 ∨ naming = 0) ∧ En = "java/lang/IllegalStateException")) := by
  refine Xc_intro (cc := cX8_solveSky) (maxL := 2) (ret := none) (by decide) rfl (Nat.le_of_ble_eq_true rfl) ?_
  intro p e s m below meth c A F htb hA hP hD hK hE ls hl
  have hX_ := F.1
  have hB_ := F.2.1
  have hts := F.2.2.2.2.2.1
  have hown := F.2.2.2.2.1
  have hml := F.2.2.2.1
  have hS : va_S A s.heap s.heap [] := va_S.rf
  have hl : lv_has ls 2 [(0, .ref h), (1, .int (iz nr))] := hl
  refine lv_iload_n hX_ hB_ dX8_solveSky_0 rfl (lv_at hl 1 rfl) ?_
  refine zk_if_lt (tgt := 11) hX_ hB_ (by omega) dX8_solveSky_1 (by decide) (fun c_1 => ?_) (fun c_1 => ?_)
  · skip
    exact xthrow (ga := ga) (cls := "java/lang/IllegalArgumentException") (text := "no such nearness") hl0 F rfl htb hE (by decide) (by decide) tk_X8_solveSky_54 ti_X8_solveSky_54 tg_X8_solveSky_58 tf_58 to_54_58 hP hD hK hS hl.1 (by exact Or.inl ⟨by omega, rfl⟩) dX8_solveSky_11 dX8_solveSky_14 dX8_solveSky_15 dX8_solveSky_17 dX8_solveSky_20 (by decide) (Nat.le_of_ble_eq_true rfl) (by decide) (by decide) (by decide) (by decide)
  · skip
    refine lv_iload_n hX_ hB_ dX8_solveSky_4 rfl (lv_at hl 1 rfl) ?_
    refine zk_sipush hX_ hB_ (by decide) dX8_solveSky_5 ?_
    refine zk_icmp_le (tgt := 21) hX_ hB_ (by omega) (by omega) dX8_solveSky_8 (by decide) (fun c_8 => ?_) (fun c_8 => ?_)
    · skip
      refine lv_aload_n hX_ hB_ dX8_solveSky_21 rfl (lv_at hl 0 rfl) ?_
      refine va_get (D := G.1) (ci := 6) (v := .ref ks) (C := RX8) (T := TX8) (N := 8) hX_ hB_ hts hi_X8_solveSky_X8 hown hK.1 hP 0 rfl rfl 5 (by decide) (hts _ hw_X8_solveSky_d46095) (fun _ h9 => h9) rfl dX8_solveSky_22 ?_
      refine va_get (D := G.1) (ci := 3) (v := .int (iz size)) (C := RX5) (T := TX5) (N := 15) hX_ hB_ hts hi_X8_solveSky_X5 hown hK.1 hP 1 rfl rfl 0 (by decide) (hts _ hw_X8_solveSky_bc9ede) (fun _ h9 => h9) rfl dX8_solveSky_25 ?_
      refine zk_if_eq (tgt := 41) hX_ hB_ (by omega) dX8_solveSky_28 (by decide) (fun c_28 => ?_) (fun c_28 => ?_)
      · skip
        exact xthrow (ga := ga) (cls := "java/lang/IllegalStateException") (text := "nothing to agree with") hl0 F rfl htb hE (by decide) (by decide) tk_X8_solveSky_61 ti_X8_solveSky_61 tg_X8_solveSky_65 tf_65 to_61_65 hP hD hK hS hl.1 (by exact Or.inr ⟨by omega, by omega, rfl⟩) dX8_solveSky_41 dX8_solveSky_44 dX8_solveSky_45 dX8_solveSky_47 dX8_solveSky_50 (by decide) (Nat.le_of_ble_eq_true rfl) (by decide) (by decide) (by decide) (by decide)
      · skip
        refine lv_aload_n hX_ hB_ dX8_solveSky_31 rfl (lv_at hl 0 rfl) ?_
        refine va_get (D := G.1) (ci := 6) (v := .ref ks) (C := RX8) (T := TX8) (N := 8) hX_ hB_ hts hi_X8_solveSky_X8 hown hK.1 hP 0 rfl rfl 5 (by decide) (hts _ hw_X8_solveSky_d46095) (fun _ h9 => h9) rfl dX8_solveSky_32 ?_
        refine va_get (D := G.1) (ci := 3) (v := .int (iz naming)) (C := RX5) (T := TX5) (N := 15) hX_ hB_ hts hi_X8_solveSky_X5 hown hK.1 hP 1 rfl rfl 1 (by decide) (hts _ hw_X8_solveSky_18cdf4) (fun _ h9 => h9) rfl dX8_solveSky_35 ?_
        refine zk_if_ne (tgt := 51) hX_ hB_ (by omega) dX8_solveSky_38 (by decide) (fun c_38 => ?_) (fun c_38 => ?_)
        · skip
          exfalso; omega
        · skip
          exact xthrow (ga := ga) (cls := "java/lang/IllegalStateException") (text := "nothing to agree with") hl0 F rfl htb hE (by decide) (by decide) tk_X8_solveSky_61 ti_X8_solveSky_61 tg_X8_solveSky_65 tf_65 to_61_65 hP hD hK hS hl.1 (by exact Or.inr ⟨by omega, by omega, rfl⟩) dX8_solveSky_41 dX8_solveSky_44 dX8_solveSky_45 dX8_solveSky_47 dX8_solveSky_50 (by decide) (Nat.le_of_ble_eq_true rfl) (by decide) (by decide) (by decide) (by decide)
    · skip
      exact xthrow (ga := ga) (cls := "java/lang/IllegalArgumentException") (text := "no such nearness") hl0 F rfl htb hE (by decide) (by decide) tk_X8_solveSky_54 ti_X8_solveSky_54 tg_X8_solveSky_58 tf_58 to_54_58 hP hD hK hS hl.1 (by exact Or.inl ⟨by omega, rfl⟩) dX8_solveSky_11 dX8_solveSky_14 dX8_solveSky_15 dX8_solveSky_17 dX8_solveSky_20 (by decide) (Nat.le_of_ble_eq_true rfl) (by decide) (by decide) (by decide) (by decide)

set_option maxHeartbeats 4000000 in
set_option maxRecDepth 100000 in
theorem c_X8_start_x (l : Launch) (G : GG) (hl0 : l.stackTraces = false) (ga : Nat → Nat) (h : Nat) (bA : Nat) (stA : Nat) (rd_ : Nat) (fi : Nat) (nt : Nat) (ks : Nat) (tc : Int) (sc : Int) (eA : Nat) (nA : Nat) (oA : Nat) (tA : Nat) (aA : Nat) (xA : Nat) (size : Int) (naming : Int) (bs : Int) (ba : Int) (sn : Int) (ag : Int) (sl : Int) (ht : Int) (bm : Int) (nr : Int) (hnr0 : R31 nr) (hxx : ¬ ((0 ≤ nr ∧ nr ≤ 1000) ∧ 1 ≤ size ∧ 1 ≤ naming)) (hzz : 0 ≤ size ∧ size ≤ 40) (hng : 0 ≤ naming ∧ naming ≤ 30) : Xc l yX8_start wsX8_start ({ frames := 7, cells := 2, slots := 12, locals := 111 }) G (ThE ga) [.ref h, .int (iz nr)] [(h, .inr (6, [.ref bA, .ref stA, .ref rd_, .ref fi, .ref nt, .ref ks, .int (iz tc), .int (iz sc)])), (ks, .inr (3, [.int (iz size), .int (iz naming), .int (iz bs), .int (iz ba), .ref eA, .ref nA, .ref oA, .ref tA, .ref aA, .ref xA, .int (iz sn), .int (iz ag), .int (iz sl), .long (lz ht), .long (lz bm)]))] 2 12 (Qki G (fun _ : Unit => [(h, .inr (6, [.ref bA, .ref stA, .ref rd_, .ref fi, .ref nt, .ref ks, .int (iz tc), .int (iz sc)])), (ks, .inr (3, [.int (iz size), .int (iz naming), .int (iz bs), .int (iz ba), .ref eA, .ref nA, .ref oA, .ref tA, .ref aA, .ref xA, .int (iz sn), .int (iz ag), .int (iz sl), .long (lz ht), .long (lz bm)]))]) (fun (r : Int32) (_ : Unit) => (r = (iz 0)) ∧ False)) (fun En : String => (¬ (0 ≤ nr ∧ nr ≤ 1000) ∧ En = "java/lang/IllegalArgumentException") ∨ ((0 ≤ nr ∧ nr ≤ 1000) ∧ (size = 0 ∨ naming = 0) ∧ En = "java/lang/IllegalStateException")) := by
  refine Xc_intro (cc := cX8_start) (maxL := 2) (ret := (some .int)) (by decide) rfl (Nat.le_of_ble_eq_true rfl) ?_
  intro p e s m below meth c A F htb hA hP hD hK hE ls hl
  have hX_ := F.1
  have hB_ := F.2.1
  have hts := F.2.2.2.2.2.1
  have hown := F.2.2.2.2.1
  have hml := F.2.2.2.1
  have hS : va_S A s.heap s.heap [] := va_S.rf
  have hl : lv_has ls 2 [(0, .ref h), (1, .int (iz nr))] := hl
  refine lv_aload_n hX_ hB_ dX8_start_0 rfl (lv_at hl 0 rfl) ?_
  refine lv_iload_n hX_ hB_ dX8_start_1 rfl (lv_at hl 1 rfl) ?_
  refine xback_v (wr := []) (xrun_V (As := [.int (iz nr)]) (rest := []) (wc := [(h, .inr (6, [.ref bA, .ref stA, .ref rd_, .ref fi, .ref nt, .ref ks, .int (iz tc), .int (iz sc)])), (ks, .inr (3, [.int (iz size), .int (iz naming), .int (iz bs), .int (iz ba), .ref eA, .ref nA, .ref oA, .ref tA, .ref aA, .ref xA, .int (iz sn), .int (iz ag), .int (iz sl), .long (lz ht), .long (lz bm)]))]) F (c_X8_solveSky_x l G hl0 ga h bA stA rd_ fi nt ks tc sc eA nA oA tA aA xA size naming bs ba sn ag sl ht bm nr hnr0 hxx hzz hng) (thE_ext ga) gX8_start_X8_solveSky rfl rfl rfl mdv_X8_solveSky ⟨Nat.le_of_ble_eq_true rfl, Nat.le_of_ble_eq_true rfl⟩ (va_recv hK.1 (hP.sub (ws' := [(h, .inr (6, [.ref bA, .ref stA, .ref rd_, .ref fi, .ref nt, .ref ks, .int (iz tc), .int (iz sc)])), (ks, .inr (3, [.int (iz size), .int (iz naming), .int (iz bs), .int (iz ba), .ref eA, .ref nA, .ref oA, .ref tA, .ref aA, .ref xA, .int (iz sn), .int (iz ag), .int (iz sl), .long (lz ht), .long (lz bm)]))]) [0, 1] rfl) (ci := 6) (q0 := 0) rfl rfl) (pre_of (thE_ext ga) hK hP hD hS hA hE [0, 1] (by decide) rfl _) rfl hl.1 (Nat.le_of_ble_eq_true rfl) dX8_start_2 ⟨by decide, by decide⟩) hP hD hS hA [0, 1] [] rfl rfl (by decide) (by decide) (fun En ce q9 H locs hx hP hD hS g1 g2 g3 => ?_) (fun u__ H locs hw hP hD hS => ?_)
  · skip
    have hP := hP.sub (ws' := [(h, .inr (6, [.ref bA, .ref stA, .ref rd_, .ref fi, .ref nt, .ref ks, .int (iz tc), .int (iz sc)])), (ks, .inr (3, [.int (iz size), .int (iz naming), .int (iz bs), .int (iz ba), .ref eA, .ref nA, .ref oA, .ref tA, .ref aA, .ref xA, .int (iz sn), .int (iz ag), .int (iz sl), .long (lz ht), .long (lz bm)]))]) [0, 1] rfl
    have hD := hD.sub (ws' := [(h, .inr (6, [.ref bA, .ref stA, .ref rd_, .ref fi, .ref nt, .ref ks, .int (iz tc), .int (iz sc)])), (ks, .inr (3, [.int (iz size), .int (iz naming), .int (iz bs), .int (iz ba), .ref eA, .ref nA, .ref oA, .ref tA, .ref aA, .ref xA, .int (iz sn), .int (iz ag), .int (iz sl), .long (lz ht), .long (lz bm)]))]) [0, 1] (by decide) rfl
    exact xout F htb hP hD hK hS (by exact hx) g1 g2 g3 (by decide) (by decide)
  have hw_2 := hw
  have hP := hP.sub (ws' := [(h, .inr (6, [.ref bA, .ref stA, .ref rd_, .ref fi, .ref nt, .ref ks, .int (iz tc), .int (iz sc)])), (ks, .inr (3, [.int (iz size), .int (iz naming), .int (iz bs), .int (iz ba), .ref eA, .ref nA, .ref oA, .ref tA, .ref aA, .ref xA, .int (iz sn), .int (iz ag), .int (iz sl), .long (lz ht), .long (lz bm)]))]) [0, 1] rfl
  have hD := hD.sub (ws' := [(h, .inr (6, [.ref bA, .ref stA, .ref rd_, .ref fi, .ref nt, .ref ks, .int (iz tc), .int (iz sc)])), (ks, .inr (3, [.int (iz size), .int (iz naming), .int (iz bs), .int (iz ba), .ref eA, .ref nA, .ref oA, .ref tA, .ref aA, .ref xA, .int (iz sn), .int (iz ag), .int (iz sl), .long (lz ht), .long (lz bm)]))]) [0, 1] (by decide) rfl
  exact hw_2.elim

set_option maxHeartbeats 4000000 in
set_option maxRecDepth 100000 in
theorem c_X8_agrees_x (l : Launch) (G : GG) (hl0 : l.stackTraces = false) (ga : Nat → Nat) (h : Nat) (bA : Nat) (stA : Nat) (rd_ : Nat) (fi : Nat) (nt : Nat) (ks : Nat) (tc : Int) (sc : Int) (eA : Nat) (nA : Nat) (oA : Nat) (tA : Nat) (aA : Nat) (xA : Nat) (size : Int) (naming : Int) (bs : Int) (ba : Int) (sn : Int) (ag : Int) (sl : Int) (ht : Int) (bm : Int) (nr : Int) (hnr0 : R31 nr) (hxx : ¬ ((0 ≤ nr ∧ nr ≤ 1000) ∧ 1 ≤ size ∧ 1 ≤ naming)) (hzz : 0 ≤ size ∧ size ≤ 40) (hng : 0 ≤ naming ∧ naming ≤ 30) : Xc l yX8_agrees wsX8_agrees ({ frames := 7, cells := 2, slots := 12, locals := 111 }) G (ThE ga) [.ref h, .int (iz nr)] [(h, .inr (6, [.ref bA, .ref stA, .ref rd_, .ref fi, .ref nt, .ref ks, .int (iz tc), .int (iz sc)])), (ks, .inr (3, [.int (iz size), .int (iz naming), .int (iz bs), .int (iz ba), .ref eA, .ref nA, .ref oA, .ref tA, .ref aA, .ref xA, .int (iz sn), .int (iz ag), .int (iz sl), .long (lz ht), .long (lz bm)]))] 2 12 (Qki G (fun _ : Unit => [(h, .inr (6, [.ref bA, .ref stA, .ref rd_, .ref fi, .ref nt, .ref ks, .int (iz tc), .int (iz sc)])), (ks, .inr (3, [.int (iz size), .int (iz naming), .int (iz bs), .int (iz ba), .ref eA, .ref nA, .ref oA, .ref tA, .ref aA, .ref xA, .int (iz sn), .int (iz ag), .int (iz sl), .long (lz ht), .long (lz bm)]))]) (fun (r : Int32) (_ : Unit) => (r = (iz 0)) ∧ False)) (fun En : String => (¬ (0 ≤ nr ∧ nr ≤ 1000) ∧ En = "java/lang/IllegalArgumentException") ∨ ((0 ≤ nr ∧ nr ≤ 1000) ∧ (size = 0 ∨ naming = 0) ∧ En = "java/lang/IllegalStateException")) := by
  refine Xc_intro (cc := cX8_agrees) (maxL := 2) (ret := (some .int)) (by decide) rfl (Nat.le_of_ble_eq_true rfl) ?_
  intro p e s m below meth c A F htb hA hP hD hK hE ls hl
  have hX_ := F.1
  have hB_ := F.2.1
  have hts := F.2.2.2.2.2.1
  have hown := F.2.2.2.2.1
  have hml := F.2.2.2.1
  have hS : va_S A s.heap s.heap [] := va_S.rf
  have hl : lv_has ls 2 [(0, .ref h), (1, .int (iz nr))] := hl
  refine lv_aload_n hX_ hB_ dX8_agrees_0 rfl (lv_at hl 0 rfl) ?_
  refine lv_iload_n hX_ hB_ dX8_agrees_1 rfl (lv_at hl 1 rfl) ?_
  refine xback_v (wr := []) (xrun_V (As := [.int (iz nr)]) (rest := []) (wc := [(h, .inr (6, [.ref bA, .ref stA, .ref rd_, .ref fi, .ref nt, .ref ks, .int (iz tc), .int (iz sc)])), (ks, .inr (3, [.int (iz size), .int (iz naming), .int (iz bs), .int (iz ba), .ref eA, .ref nA, .ref oA, .ref tA, .ref aA, .ref xA, .int (iz sn), .int (iz ag), .int (iz sl), .long (lz ht), .long (lz bm)]))]) F (c_X8_solveSky_x l G hl0 ga h bA stA rd_ fi nt ks tc sc eA nA oA tA aA xA size naming bs ba sn ag sl ht bm nr hnr0 hxx hzz hng) (thE_ext ga) gX8_agrees_X8_solveSky rfl rfl rfl mdv_X8_solveSky ⟨Nat.le_of_ble_eq_true rfl, Nat.le_of_ble_eq_true rfl⟩ (va_recv hK.1 (hP.sub (ws' := [(h, .inr (6, [.ref bA, .ref stA, .ref rd_, .ref fi, .ref nt, .ref ks, .int (iz tc), .int (iz sc)])), (ks, .inr (3, [.int (iz size), .int (iz naming), .int (iz bs), .int (iz ba), .ref eA, .ref nA, .ref oA, .ref tA, .ref aA, .ref xA, .int (iz sn), .int (iz ag), .int (iz sl), .long (lz ht), .long (lz bm)]))]) [0, 1] rfl) (ci := 6) (q0 := 0) rfl rfl) (pre_of (thE_ext ga) hK hP hD hS hA hE [0, 1] (by decide) rfl _) rfl hl.1 (Nat.le_of_ble_eq_true rfl) dX8_agrees_2 ⟨by decide, by decide⟩) hP hD hS hA [0, 1] [] rfl rfl (by decide) (by decide) (fun En ce q9 H locs hx hP hD hS g1 g2 g3 => ?_) (fun u__ H locs hw hP hD hS => ?_)
  · skip
    have hP := hP.sub (ws' := [(h, .inr (6, [.ref bA, .ref stA, .ref rd_, .ref fi, .ref nt, .ref ks, .int (iz tc), .int (iz sc)])), (ks, .inr (3, [.int (iz size), .int (iz naming), .int (iz bs), .int (iz ba), .ref eA, .ref nA, .ref oA, .ref tA, .ref aA, .ref xA, .int (iz sn), .int (iz ag), .int (iz sl), .long (lz ht), .long (lz bm)]))]) [0, 1] rfl
    have hD := hD.sub (ws' := [(h, .inr (6, [.ref bA, .ref stA, .ref rd_, .ref fi, .ref nt, .ref ks, .int (iz tc), .int (iz sc)])), (ks, .inr (3, [.int (iz size), .int (iz naming), .int (iz bs), .int (iz ba), .ref eA, .ref nA, .ref oA, .ref tA, .ref aA, .ref xA, .int (iz sn), .int (iz ag), .int (iz sl), .long (lz ht), .long (lz bm)]))]) [0, 1] (by decide) rfl
    exact xout F htb hP hD hK hS (by exact hx) g1 g2 g3 (by decide) (by decide)
  have hw_2 := hw
  have hP := hP.sub (ws' := [(h, .inr (6, [.ref bA, .ref stA, .ref rd_, .ref fi, .ref nt, .ref ks, .int (iz tc), .int (iz sc)])), (ks, .inr (3, [.int (iz size), .int (iz naming), .int (iz bs), .int (iz ba), .ref eA, .ref nA, .ref oA, .ref tA, .ref aA, .ref xA, .int (iz sn), .int (iz ag), .int (iz sl), .long (lz ht), .long (lz bm)]))]) [0, 1] rfl
  have hD := hD.sub (ws' := [(h, .inr (6, [.ref bA, .ref stA, .ref rd_, .ref fi, .ref nt, .ref ks, .int (iz tc), .int (iz sc)])), (ks, .inr (3, [.int (iz size), .int (iz naming), .int (iz bs), .int (iz ba), .ref eA, .ref nA, .ref oA, .ref tA, .ref aA, .ref xA, .int (iz sn), .int (iz ag), .int (iz sl), .long (lz ht), .long (lz bm)]))]) [0, 1] (by decide) rfl
  exact hw_2.elim

set_option maxHeartbeats 4000000 in
set_option maxRecDepth 100000 in
theorem c_L_start2_x (l : Launch) (G : GG) (hl0 : l.stackTraces = false) (ga : Nat → Nat) (h : Nat) (bA : Nat) (stA : Nat) (rd_ : Nat) (fi : Nat) (nt : Nat) (ks : Nat) (tc : Int) (sc : Int) (eA : Nat) (nA : Nat) (oA : Nat) (tA : Nat) (aA : Nat) (xA : Nat) (size : Int) (naming : Int) (bs : Int) (ba : Int) (sn : Int) (ag : Int) (sl : Int) (ht : Int) (bm : Int) (nr : Int) (ou : Nat) (ov : Int → Int64) (hnr0 : R31 nr) (hxx : ¬ ((0 ≤ nr ∧ nr ≤ 1000) ∧ 1 ≤ size ∧ 1 ≤ naming)) (hzz : 0 ≤ size ∧ size ≤ 40) (hng : 0 ≤ naming ∧ naming ≤ 30) (hx9 : ((¬ (0 ≤ nr ∧ nr ≤ 1000)) ∨ ((0 ≤ nr ∧ nr ≤ 1000) ∧ (size = 0 ∨ naming = 0)))) : Ci l yL_start wsL_start ({ frames := 8, cells := 2, slots := 12, locals := 132 }) G (And2 (ThE ga) CtE) [.ref h, .int (iz nr), .ref ou] [(h, .inr (6, [.ref bA, .ref stA, .ref rd_, .ref fi, .ref nt, .ref ks, .int (iz tc), .int (iz sc)])), (ks, .inr (3, [.int (iz size), .int (iz naming), .int (iz bs), .int (iz ba), .ref eA, .ref nA, .ref oA, .ref tA, .ref aA, .ref xA, .int (iz sn), .int (iz ag), .int (iz sl), .long (lz ht), .long (lz bm)])), (ou, .inl (G.2 2, 1, .inr (.inl (rv ov))))] 2 12 (fun k2 : Int => [(h, .inr (6, [.ref bA, .ref stA, .ref rd_, .ref fi, .ref nt, .ref ks, .int (iz tc), .int (iz sc)])), (ks, .inr (3, [.int (iz size), .int (iz naming), .int (iz bs), .int (iz ba), .ref eA, .ref nA, .ref oA, .ref tA, .ref aA, .ref xA, .int (iz sn), .int (iz ag), .int (iz sl), .long (lz ht), .long (lz bm)])), (ou, .inl (G.2 2, 1, .inr (.inl (rv ov))))]) (fun (r : Int32) (k2 : Int) => (r = (iz k2)) ∧ ((¬ (0 ≤ nr ∧ nr ≤ 1000) → k2 = 1) ∧ ((0 ≤ nr ∧ nr ≤ 1000) ∧ (size = 0 ∨ naming = 0) → k2 = 2))) := by
  refine Ciw_intro (cc := cL_start) (maxL := 4) (ret := (some .int)) (hh := [(0, 9, 12, 13), (0, 9, 15, 15)]) (by decide) rfl (Nat.le_of_ble_eq_true rfl) ?_
  intro p e s m below meth c A F htb hA hP hD hK hE ls hl
  have hX_ := F.1
  have hB_ := F.2.1
  have hts := F.2.2.2.2.2.1
  have hown := F.2.2.2.2.1
  have hml := F.2.2.2.1
  have hS : va_S A s.heap s.heap [] := va_S.rf
  have hl : lv_has ls 4 [(0, .ref h), (1, .int (iz nr)), (2, .ref ou)] := hl
  refine lv_aload_n hX_ hB_ dL_start_0 rfl (lv_at hl 2 rfl) ?_
  refine zk_iconst hX_ hB_ dL_start_1 ?_
  refine lv_aload_n hX_ hB_ dL_start_2 rfl (lv_at hl 0 rfl) ?_
  refine lv_iload_n hX_ hB_ dL_start_3 rfl (lv_at hl 1 rfl) ?_
  refine xback_i (wr := [(ou, .inl (G.2 2, 1, .inr (.inl (rv ov))))]) (xrun_V (As := [.int (iz nr)]) (rest := [.int (iz 0), .ref ou]) (wc := [(h, .inr (6, [.ref bA, .ref stA, .ref rd_, .ref fi, .ref nt, .ref ks, .int (iz tc), .int (iz sc)])), (ks, .inr (3, [.int (iz size), .int (iz naming), .int (iz bs), .int (iz ba), .ref eA, .ref nA, .ref oA, .ref tA, .ref aA, .ref xA, .int (iz sn), .int (iz ag), .int (iz sl), .long (lz ht), .long (lz bm)]))]) F (c_X8_start_x l G hl0 ga h bA stA rd_ fi nt ks tc sc eA nA oA tA aA xA size naming bs ba sn ag sl ht bm nr hnr0 hxx hzz hng) (thE_ext ga) gL_start_X8_start rfl rfl rfl mdv_X8_start ⟨Nat.le_of_ble_eq_true rfl, Nat.le_of_ble_eq_true rfl⟩ (va_recv hK.1 (hP.sub (ws' := [(h, .inr (6, [.ref bA, .ref stA, .ref rd_, .ref fi, .ref nt, .ref ks, .int (iz tc), .int (iz sc)])), (ks, .inr (3, [.int (iz size), .int (iz naming), .int (iz bs), .int (iz ba), .ref eA, .ref nA, .ref oA, .ref tA, .ref aA, .ref xA, .int (iz sn), .int (iz ag), .int (iz sl), .long (lz ht), .long (lz bm)]))]) [0, 1] rfl) (ci := 6) (q0 := 0) rfl rfl) (pre_of (thE_ext ga) hK hP hD hS hA hE.1 [0, 1] (by decide) rfl _) rfl hl.1 (Nat.le_of_ble_eq_true rfl) dL_start_4 ⟨by decide, by decide⟩) hP hD hS hA [0, 1] [2] rfl rfl (by decide) (by decide) (fun En ce q9 H locs hx hP hD hS g1 g2 g3 => ?_) (fun r__ u__ H locs hw hP hD hS => ?_)
  · skip
    have hP := hP.sub (ws' := [(h, .inr (6, [.ref bA, .ref stA, .ref rd_, .ref fi, .ref nt, .ref ks, .int (iz tc), .int (iz sc)])), (ks, .inr (3, [.int (iz size), .int (iz naming), .int (iz bs), .int (iz ba), .ref eA, .ref nA, .ref oA, .ref tA, .ref aA, .ref xA, .int (iz sn), .int (iz ag), .int (iz sl), .long (lz ht), .long (lz bm)])), (ou, .inl (G.2 2, 1, .inr (.inl (rv ov))))]) [1, 2, 0] rfl
    have hD := hD.sub (ws' := [(h, .inr (6, [.ref bA, .ref stA, .ref rd_, .ref fi, .ref nt, .ref ks, .int (iz tc), .int (iz sc)])), (ks, .inr (3, [.int (iz size), .int (iz naming), .int (iz bs), .int (iz ba), .ref eA, .ref nA, .ref oA, .ref tA, .ref aA, .ref xA, .int (iz sn), .int (iz ag), .int (iz sl), .long (lz ht), .long (lz bm)])), (ou, .inl (G.2 2, 1, .inr (.inl (rv ov))))]) [1, 2, 0] (by decide) rfl
    rcases hx with ⟨hq0, rfl⟩ | ⟨hq0, hq1, rfl⟩
    · skip
      skip
      refine vx_catch (own := RL) (name := "java/lang/IllegalArgumentException") hown [] ⟨0, 9, 12, 13⟩ [⟨0, 9, 15, 15⟩] (by rw [htb]; rfl) (fun z hz => absurd hz List.not_mem_nil) rfl (by decide) (hts _ hw_L_start_4bcdaf) (va_Nw.use (by decide) (hE.2.1 _ (by decide))) g1 g2 g3 ?_
      refine lv_astore_n (lv' := [(3, .ref q9), (0, .ref h), (1, .int (iz nr)), (2, .ref ou)]) hX_ hB_ dL_start_12 rfl hl (by decide) rfl (fun ls hl => ?_)
      refine zk_iconst hX_ hB_ dL_start_13 ?_
      exact fin_i (wf := (fun k2 : Int => [(h, .inr (6, [.ref bA, .ref stA, .ref rd_, .ref fi, .ref nt, .ref ks, .int (iz tc), .int (iz sc)])), (ks, .inr (3, [.int (iz size), .int (iz naming), .int (iz bs), .int (iz ba), .ref eA, .ref nA, .ref oA, .ref tA, .ref aA, .ref xA, .int (iz sn), .int (iz ag), .int (iz sl), .long (lz ht), .long (lz bm)])), (ou, .inl (G.2 2, 1, .inr (.inl (rv ov))))])) 1 F rfl hP hD hK hS (by decide) (by decide) dL_start_14 (by exact ⟨rfl, fun _ => rfl, fun q_ => absurd q_ (by omega)⟩)
    · skip
      skip
      have hps : ∀ z ∈ ([⟨0, 9, 12, 13⟩] : List ExceptionTableEntry), covers z 4 = false ∨ (z.catchType ≠ 0 ∧ ∃ nm : String, (Cond.classLink RL z.catchType nm).before ([.ref h, .int (iz nr), .ref ou] : List Value).toArray s = true ∧ va_Nc "java/lang/IllegalStateException" nm s) := by
        intro z hz
        cases List.mem_singleton.mp hz
        exact Or.inr ⟨by decide, "java/lang/IllegalArgumentException", (hts _ hw_L_start_4bcdaf), hE.2.2 _ (by decide) _ (by decide) (by decide)⟩
      refine vx_catch (own := RL) (name := "java/lang/IllegalStateException") hown [⟨0, 9, 12, 13⟩] ⟨0, 9, 15, 15⟩ [] (by rw [htb]; rfl) hps rfl (by decide) (hts _ hw_L_start_f177f5) (va_Nw.use (by decide) (hE.2.1 _ (by decide))) g1 g2 g3 ?_
      refine lv_astore_n (lv' := [(3, .ref q9), (0, .ref h), (1, .int (iz nr)), (2, .ref ou)]) hX_ hB_ dL_start_15 rfl hl (by decide) rfl (fun ls hl => ?_)
      refine zk_iconst hX_ hB_ dL_start_16 ?_
      exact fin_i (wf := (fun k2 : Int => [(h, .inr (6, [.ref bA, .ref stA, .ref rd_, .ref fi, .ref nt, .ref ks, .int (iz tc), .int (iz sc)])), (ks, .inr (3, [.int (iz size), .int (iz naming), .int (iz bs), .int (iz ba), .ref eA, .ref nA, .ref oA, .ref tA, .ref aA, .ref xA, .int (iz sn), .int (iz ag), .int (iz sl), .long (lz ht), .long (lz bm)])), (ou, .inl (G.2 2, 1, .inr (.inl (rv ov))))])) 2 F rfl hP hD hK hS (by decide) (by decide) dL_start_17 (by exact ⟨rfl, fun q_ => absurd q_ (by omega), fun _ => rfl⟩)
  obtain ⟨rfl, hw_4⟩ := hw
  have hP := hP.sub (ws' := [(h, .inr (6, [.ref bA, .ref stA, .ref rd_, .ref fi, .ref nt, .ref ks, .int (iz tc), .int (iz sc)])), (ks, .inr (3, [.int (iz size), .int (iz naming), .int (iz bs), .int (iz ba), .ref eA, .ref nA, .ref oA, .ref tA, .ref aA, .ref xA, .int (iz sn), .int (iz ag), .int (iz sl), .long (lz ht), .long (lz bm)])), (ou, .inl (G.2 2, 1, .inr (.inl (rv ov))))]) [1, 2, 0] rfl
  have hD := hD.sub (ws' := [(h, .inr (6, [.ref bA, .ref stA, .ref rd_, .ref fi, .ref nt, .ref ks, .int (iz tc), .int (iz sc)])), (ks, .inr (3, [.int (iz size), .int (iz naming), .int (iz bs), .int (iz ba), .ref eA, .ref nA, .ref oA, .ref tA, .ref aA, .ref xA, .int (iz sn), .int (iz ag), .int (iz sl), .long (lz ht), .long (lz bm)])), (ou, .inl (G.2 2, 1, .inr (.inl (rv ov))))]) [1, 2, 0] (by decide) rfl
  exact hw_4.elim

set_option maxHeartbeats 4000000 in
set_option maxRecDepth 100000 in
theorem c_L_agrees2_x (l : Launch) (G : GG) (hl0 : l.stackTraces = false) (ga : Nat → Nat) (h : Nat) (bA : Nat) (stA : Nat) (rd_ : Nat) (fi : Nat) (nt : Nat) (ks : Nat) (tc : Int) (sc : Int) (eA : Nat) (nA : Nat) (oA : Nat) (tA : Nat) (aA : Nat) (xA : Nat) (size : Int) (naming : Int) (bs : Int) (ba : Int) (sn : Int) (ag : Int) (sl : Int) (ht : Int) (bm : Int) (nr : Int) (ou : Nat) (ov : Int → Int64) (hnr0 : R31 nr) (hxx : ¬ ((0 ≤ nr ∧ nr ≤ 1000) ∧ 1 ≤ size ∧ 1 ≤ naming)) (hzz : 0 ≤ size ∧ size ≤ 40) (hng : 0 ≤ naming ∧ naming ≤ 30) (hx9 : ((¬ (0 ≤ nr ∧ nr ≤ 1000)) ∨ ((0 ≤ nr ∧ nr ≤ 1000) ∧ (size = 0 ∨ naming = 0)))) : Ci l yL_agrees wsL_agrees ({ frames := 8, cells := 2, slots := 12, locals := 132 }) G (And2 (ThE ga) CtE) [.ref h, .int (iz nr), .ref ou] [(h, .inr (6, [.ref bA, .ref stA, .ref rd_, .ref fi, .ref nt, .ref ks, .int (iz tc), .int (iz sc)])), (ks, .inr (3, [.int (iz size), .int (iz naming), .int (iz bs), .int (iz ba), .ref eA, .ref nA, .ref oA, .ref tA, .ref aA, .ref xA, .int (iz sn), .int (iz ag), .int (iz sl), .long (lz ht), .long (lz bm)])), (ou, .inl (G.2 2, 1, .inr (.inl (rv ov))))] 2 12 (fun k2 : Int => [(h, .inr (6, [.ref bA, .ref stA, .ref rd_, .ref fi, .ref nt, .ref ks, .int (iz tc), .int (iz sc)])), (ks, .inr (3, [.int (iz size), .int (iz naming), .int (iz bs), .int (iz ba), .ref eA, .ref nA, .ref oA, .ref tA, .ref aA, .ref xA, .int (iz sn), .int (iz ag), .int (iz sl), .long (lz ht), .long (lz bm)])), (ou, .inl (G.2 2, 1, .inr (.inl (rv ov))))]) (fun (r : Int32) (k2 : Int) => (r = (iz k2)) ∧ ((¬ (0 ≤ nr ∧ nr ≤ 1000) → k2 = 1) ∧ ((0 ≤ nr ∧ nr ≤ 1000) ∧ (size = 0 ∨ naming = 0) → k2 = 2))) := by
  refine Ciw_intro (cc := cL_agrees) (maxL := 4) (ret := (some .int)) (hh := [(0, 9, 12, 13), (0, 9, 15, 15)]) (by decide) rfl (Nat.le_of_ble_eq_true rfl) ?_
  intro p e s m below meth c A F htb hA hP hD hK hE ls hl
  have hX_ := F.1
  have hB_ := F.2.1
  have hts := F.2.2.2.2.2.1
  have hown := F.2.2.2.2.1
  have hml := F.2.2.2.1
  have hS : va_S A s.heap s.heap [] := va_S.rf
  have hl : lv_has ls 4 [(0, .ref h), (1, .int (iz nr)), (2, .ref ou)] := hl
  refine lv_aload_n hX_ hB_ dL_agrees_0 rfl (lv_at hl 2 rfl) ?_
  refine zk_iconst hX_ hB_ dL_agrees_1 ?_
  refine lv_aload_n hX_ hB_ dL_agrees_2 rfl (lv_at hl 0 rfl) ?_
  refine lv_iload_n hX_ hB_ dL_agrees_3 rfl (lv_at hl 1 rfl) ?_
  refine xback_i (wr := [(ou, .inl (G.2 2, 1, .inr (.inl (rv ov))))]) (xrun_V (As := [.int (iz nr)]) (rest := [.int (iz 0), .ref ou]) (wc := [(h, .inr (6, [.ref bA, .ref stA, .ref rd_, .ref fi, .ref nt, .ref ks, .int (iz tc), .int (iz sc)])), (ks, .inr (3, [.int (iz size), .int (iz naming), .int (iz bs), .int (iz ba), .ref eA, .ref nA, .ref oA, .ref tA, .ref aA, .ref xA, .int (iz sn), .int (iz ag), .int (iz sl), .long (lz ht), .long (lz bm)]))]) F (c_X8_agrees_x l G hl0 ga h bA stA rd_ fi nt ks tc sc eA nA oA tA aA xA size naming bs ba sn ag sl ht bm nr hnr0 hxx hzz hng) (thE_ext ga) gL_agrees_X8_agrees rfl rfl rfl mdv_X8_agrees ⟨Nat.le_of_ble_eq_true rfl, Nat.le_of_ble_eq_true rfl⟩ (va_recv hK.1 (hP.sub (ws' := [(h, .inr (6, [.ref bA, .ref stA, .ref rd_, .ref fi, .ref nt, .ref ks, .int (iz tc), .int (iz sc)])), (ks, .inr (3, [.int (iz size), .int (iz naming), .int (iz bs), .int (iz ba), .ref eA, .ref nA, .ref oA, .ref tA, .ref aA, .ref xA, .int (iz sn), .int (iz ag), .int (iz sl), .long (lz ht), .long (lz bm)]))]) [0, 1] rfl) (ci := 6) (q0 := 0) rfl rfl) (pre_of (thE_ext ga) hK hP hD hS hA hE.1 [0, 1] (by decide) rfl _) rfl hl.1 (Nat.le_of_ble_eq_true rfl) dL_agrees_4 ⟨by decide, by decide⟩) hP hD hS hA [0, 1] [2] rfl rfl (by decide) (by decide) (fun En ce q9 H locs hx hP hD hS g1 g2 g3 => ?_) (fun r__ u__ H locs hw hP hD hS => ?_)
  · skip
    have hP := hP.sub (ws' := [(h, .inr (6, [.ref bA, .ref stA, .ref rd_, .ref fi, .ref nt, .ref ks, .int (iz tc), .int (iz sc)])), (ks, .inr (3, [.int (iz size), .int (iz naming), .int (iz bs), .int (iz ba), .ref eA, .ref nA, .ref oA, .ref tA, .ref aA, .ref xA, .int (iz sn), .int (iz ag), .int (iz sl), .long (lz ht), .long (lz bm)])), (ou, .inl (G.2 2, 1, .inr (.inl (rv ov))))]) [1, 2, 0] rfl
    have hD := hD.sub (ws' := [(h, .inr (6, [.ref bA, .ref stA, .ref rd_, .ref fi, .ref nt, .ref ks, .int (iz tc), .int (iz sc)])), (ks, .inr (3, [.int (iz size), .int (iz naming), .int (iz bs), .int (iz ba), .ref eA, .ref nA, .ref oA, .ref tA, .ref aA, .ref xA, .int (iz sn), .int (iz ag), .int (iz sl), .long (lz ht), .long (lz bm)])), (ou, .inl (G.2 2, 1, .inr (.inl (rv ov))))]) [1, 2, 0] (by decide) rfl
    rcases hx with ⟨hq0, rfl⟩ | ⟨hq0, hq1, rfl⟩
    · skip
      skip
      refine vx_catch (own := RL) (name := "java/lang/IllegalArgumentException") hown [] ⟨0, 9, 12, 13⟩ [⟨0, 9, 15, 15⟩] (by rw [htb]; rfl) (fun z hz => absurd hz List.not_mem_nil) rfl (by decide) (hts _ hw_L_agrees_4bcdaf) (va_Nw.use (by decide) (hE.2.1 _ (by decide))) g1 g2 g3 ?_
      refine lv_astore_n (lv' := [(3, .ref q9), (0, .ref h), (1, .int (iz nr)), (2, .ref ou)]) hX_ hB_ dL_agrees_12 rfl hl (by decide) rfl (fun ls hl => ?_)
      refine zk_iconst hX_ hB_ dL_agrees_13 ?_
      exact fin_i (wf := (fun k2 : Int => [(h, .inr (6, [.ref bA, .ref stA, .ref rd_, .ref fi, .ref nt, .ref ks, .int (iz tc), .int (iz sc)])), (ks, .inr (3, [.int (iz size), .int (iz naming), .int (iz bs), .int (iz ba), .ref eA, .ref nA, .ref oA, .ref tA, .ref aA, .ref xA, .int (iz sn), .int (iz ag), .int (iz sl), .long (lz ht), .long (lz bm)])), (ou, .inl (G.2 2, 1, .inr (.inl (rv ov))))])) 1 F rfl hP hD hK hS (by decide) (by decide) dL_agrees_14 (by exact ⟨rfl, fun _ => rfl, fun q_ => absurd q_ (by omega)⟩)
    · skip
      skip
      have hps : ∀ z ∈ ([⟨0, 9, 12, 13⟩] : List ExceptionTableEntry), covers z 4 = false ∨ (z.catchType ≠ 0 ∧ ∃ nm : String, (Cond.classLink RL z.catchType nm).before ([.ref h, .int (iz nr), .ref ou] : List Value).toArray s = true ∧ va_Nc "java/lang/IllegalStateException" nm s) := by
        intro z hz
        cases List.mem_singleton.mp hz
        exact Or.inr ⟨by decide, "java/lang/IllegalArgumentException", (hts _ hw_L_agrees_4bcdaf), hE.2.2 _ (by decide) _ (by decide) (by decide)⟩
      refine vx_catch (own := RL) (name := "java/lang/IllegalStateException") hown [⟨0, 9, 12, 13⟩] ⟨0, 9, 15, 15⟩ [] (by rw [htb]; rfl) hps rfl (by decide) (hts _ hw_L_agrees_f177f5) (va_Nw.use (by decide) (hE.2.1 _ (by decide))) g1 g2 g3 ?_
      refine lv_astore_n (lv' := [(3, .ref q9), (0, .ref h), (1, .int (iz nr)), (2, .ref ou)]) hX_ hB_ dL_agrees_15 rfl hl (by decide) rfl (fun ls hl => ?_)
      refine zk_iconst hX_ hB_ dL_agrees_16 ?_
      exact fin_i (wf := (fun k2 : Int => [(h, .inr (6, [.ref bA, .ref stA, .ref rd_, .ref fi, .ref nt, .ref ks, .int (iz tc), .int (iz sc)])), (ks, .inr (3, [.int (iz size), .int (iz naming), .int (iz bs), .int (iz ba), .ref eA, .ref nA, .ref oA, .ref tA, .ref aA, .ref xA, .int (iz sn), .int (iz ag), .int (iz sl), .long (lz ht), .long (lz bm)])), (ou, .inl (G.2 2, 1, .inr (.inl (rv ov))))])) 2 F rfl hP hD hK hS (by decide) (by decide) dL_agrees_17 (by exact ⟨rfl, fun q_ => absurd q_ (by omega), fun _ => rfl⟩)
  obtain ⟨rfl, hw_4⟩ := hw
  have hP := hP.sub (ws' := [(h, .inr (6, [.ref bA, .ref stA, .ref rd_, .ref fi, .ref nt, .ref ks, .int (iz tc), .int (iz sc)])), (ks, .inr (3, [.int (iz size), .int (iz naming), .int (iz bs), .int (iz ba), .ref eA, .ref nA, .ref oA, .ref tA, .ref aA, .ref xA, .int (iz sn), .int (iz ag), .int (iz sl), .long (lz ht), .long (lz bm)])), (ou, .inl (G.2 2, 1, .inr (.inl (rv ov))))]) [1, 2, 0] rfl
  have hD := hD.sub (ws' := [(h, .inr (6, [.ref bA, .ref stA, .ref rd_, .ref fi, .ref nt, .ref ks, .int (iz tc), .int (iz sc)])), (ks, .inr (3, [.int (iz size), .int (iz naming), .int (iz bs), .int (iz ba), .ref eA, .ref nA, .ref oA, .ref tA, .ref aA, .ref xA, .int (iz sn), .int (iz ag), .int (iz sl), .long (lz ht), .long (lz bm)])), (ou, .inl (G.2 2, 1, .inr (.inl (rv ov))))]) [1, 2, 0] (by decide) rfl
  exact hw_4.elim
