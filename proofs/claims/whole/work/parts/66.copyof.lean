
theorem fit_i {cA : ClassId} {n : Nat} {f : Nat → Int32} {i : Nat} {v : Value} (h : (vp_cell cA (n, .inl f)).slots[i]? = some v) : fits .int v = true := by
  have hlt : i < n := by
    have h1 := (Array.getElem?_eq_some_iff.mp h).1
    have h2 : (vp_cell cA (n, .inl f)).slots.size = n := arrV_size _ _ _
    omega
  have h2 : (vp_cell cA (n, .inl f)).slots[i]? = some (.int (f i)) := arrV_read _ _ hlt
  rw [h2] at h
  cases h
  rfl
def ClE : EE := fun _ U _ => va_Nw (.castable "[I" "java/lang/Cloneable") U
theorem clE_ext : Ext ClE := ⟨fun A u U H hv h => cd_warm (by decide) hv h, fun A U H H1 hq h => h, fun A B U H hq h => h⟩
theorem hw_J7_copyOf_59c91_d160d5 : (.arrayClass .int : Cond) ∈ wsJ7_copyOf_59c91 := by decide +kernel
theorem hw_J7_copyOf_59c91_b435a9 : (.methodLink RJ7 304 Lib.Math.min.name : Cond) ∈ wsJ7_copyOf_59c91 := by decide +kernel
theorem hw_J7_copyOf_59c91_79b26a : (.static Lib.Math.min.name : Cond) ∈ wsJ7_copyOf_59c91 := by decide +kernel
theorem hw_J7_copyOf_59c91_868a92 : (.initialized "java/lang/Math" : Cond) ∈ wsJ7_copyOf_59c91 := by decide +kernel
theorem hw_J7_copyOf_59c91_0fd793 : (.code Lib.Math.min.name Lib.Math.min.code 2 (some .int) : Cond) ∈ wsJ7_copyOf_59c91 := by decide +kernel
theorem hw_J7_copyOf_59c91_018043 : (.methodLink RJ7 150 arraycopyName : Cond) ∈ wsJ7_copyOf_59c91 := by decide +kernel
theorem hw_J7_copyOf_59c91_a648c8 : (.native arraycopyName : Cond) ∈ wsJ7_copyOf_59c91 := by decide +kernel
theorem hw_J7_copyOf_59c91_410d49 : (.static arraycopyName : Cond) ∈ wsJ7_copyOf_59c91 := by decide +kernel
theorem hw_J7_copyOf_59c91_4260ff : (.initialized "java/lang/System" : Cond) ∈ wsJ7_copyOf_59c91 := by decide +kernel
theorem hw_J7_copyOf_59c91_d204b8 : (.methodLink RJ7 316 ⟨"[I", "clone", "()Ljava/lang/Object;"⟩ : Cond) ∈ wsJ7_copyOf_59c91 := by decide +kernel
theorem hw_J7_copyOf_59c91_0ec703 : (.sameMethod "[I" "java/lang/Object" "clone" "()Ljava/lang/Object;" : Cond) ∈ wsJ7_copyOf_59c91 := by decide +kernel
theorem hw_J7_copyOf_59c91_f95e91 : (.native ⟨"java/lang/Object", "clone", "()Ljava/lang/Object;"⟩ : Cond) ∈ wsJ7_copyOf_59c91 := by decide +kernel
theorem hw_J7_copyOf_59c91_0fafe5 : (.instanceMethod ⟨"java/lang/Object", "clone", "()Ljava/lang/Object;"⟩ : Cond) ∈ wsJ7_copyOf_59c91 := by decide +kernel
theorem hw_J7_copyOf_59c91_220b0a : (.selects "[I" ⟨"[I", "clone", "()Ljava/lang/Object;"⟩ ⟨"java/lang/Object", "clone", "()Ljava/lang/Object;"⟩ : Cond) ∈ wsJ7_copyOf_59c91 := by decide +kernel
theorem hw_J7_copyOf_59c91_f2a4be : (.classLink RJ7 317 "[I" : Cond) ∈ wsJ7_copyOf_59c91 := by decide +kernel
set_option maxHeartbeats 4000000 in
set_option maxRecDepth 100000 in
theorem c_J7_copyOf_59c91 (l : Launch) (G : GG) (a : Nat) (g : Int → Int) (k : Int) (hk : 0 ≤ k ∧ k ≤ 300) : Cq l yJ7_copyOf_59c91 wsJ7_copyOf_59c91 ({ frames := 1, cells := 1, slots := 300, locals := 40 }) G ClE [.ref a, .int (iz k)] [(a, .inl (G.2 0, 300, .inl (av g)))] 1 300 (fun u : Nat × (Int → Int) => match u with | (b, g2) => [(a, .inl (G.2 0, 300, .inl (av g))), (b, .inl (G.2 0, k.toNat, .inl (av g2)))]) (fun (r : Option Nat) (u : Nat × (Int → Int)) => match u with | (b, g2) => (r = some b) ∧ (∀ j : Int, 0 ≤ j → j < k → g2 j = g j)) := by
  refine Cq_intro (cc := cJ7_copyOf_59c91) (maxL := 3) (ret := (some (.array .int))) (by decide) rfl (Nat.le_of_ble_eq_true rfl) ?_
  intro p e s m below meth c A F hA hP hD hK hE ls hl
  have hX_ := F.1
  have hB_ := F.2.1
  have hts := F.2.2.2.2.2.1
  have hown := F.2.2.2.2.1
  have hml := F.2.2.2.1
  have hS : va_S A s.heap s.heap [] := va_S.rf
  have hl : lv_has ls 3 [(0, .ref a), (1, .int (iz k))] := hl
  refine lv_iload_n hX_ hB_ dJ7_copyOf_59c91_0 rfl (lv_at hl 1 rfl) ?_
  refine lv_aload_n hX_ hB_ dJ7_copyOf_59c91_1 rfl (lv_at hl 0 rfl) ?_
  refine zk_alen hX_ hB_ hK.1 hP 0 0 (300) rfl rfl rfl dJ7_copyOf_59c91_2 ?_
  refine zk_icmp_ne (tgt := 14) hX_ hB_ (by omega) (by omega) dJ7_copyOf_59c91_3 (by decide) (fun c_3 => ?_) (fun c_3 => ?_)
  · skip
    refine lv_iload_n hX_ hB_ dJ7_copyOf_59c91_14 rfl (lv_at hl 1 rfl) ?_
    refine zk_newa (atype := .int) (a0 := (k.toNat, .inl (av (fun _ => 0)))) hX_ hB_ (hts _ hw_J7_copyOf_59c91_d160d5) rfl hK.2.1 hP hD hS hA (N := k.toNat) rfl (by omega) (by omega) (by omega) (by show k.toNat * 4 ≤ 536870912; omega) (by decide) (by show 0 + k.toNat ≤ 300; omega) dJ7_copyOf_59c91_15 (fun b H hP hD hS => ?_)
    have hP : va_P G.1 vwCl [(a, .inl (G.2 0, 300, .inl (av g))), (b, .inl (G.2 0, k.toNat, .inl (av (fun _ => 0))))] _ := hP
    have hD : va_D A [(a, .inl (G.2 0, 300, .inl (av g))), (b, .inl (G.2 0, k.toNat, .inl (av (fun _ => 0))))] := hD
    refine lv_astore_n (lv' := [(2, .ref b), (0, .ref a), (1, .int (iz k))]) hX_ hB_ dJ7_copyOf_59c91_17 rfl hl (by decide) rfl (fun ls hl => ?_)
    refine lv_aload_n hX_ hB_ dJ7_copyOf_59c91_18 rfl (lv_at hl 1 rfl) ?_
    refine zk_iconst hX_ hB_ dJ7_copyOf_59c91_19 ?_
    refine lv_aload_n hX_ hB_ dJ7_copyOf_59c91_20 rfl (lv_at hl 0 rfl) ?_
    refine zk_iconst hX_ hB_ dJ7_copyOf_59c91_21 ?_
    refine lv_aload_n hX_ hB_ dJ7_copyOf_59c91_22 rfl (lv_at hl 1 rfl) ?_
    refine zk_alen hX_ hB_ hK.1 hP 0 0 (300) rfl rfl rfl dJ7_copyOf_59c91_23 ?_
    refine lv_iload_n hX_ hB_ dJ7_copyOf_59c91_24 rfl (lv_at hl 2 rfl) ?_
    refine zk_mmin hX_ hB_ (by rw [hml]; exact hl.1.symm) hown (hts _ hw_J7_copyOf_59c91_b435a9) (hts _ hw_J7_copyOf_59c91_79b26a) (hts _ hw_J7_copyOf_59c91_868a92) (hts _ hw_J7_copyOf_59c91_0fd793) (Nat.le_of_ble_eq_true rfl) (Nat.le_of_ble_eq_true rfl) (by decide) (by show 0 + k.toNat ≤ 300; omega) (by omega) (by omega) dJ7_copyOf_59c91_25 ?_
    have him : imin 300 k = k := (by unfold imin; omega)
    refine zk_copy hX_ hB_ (by rw [hml]; exact hl.1.symm) hown (hts _ hw_J7_copyOf_59c91_018043) (hts _ hw_J7_copyOf_59c91_a648c8) (hts _ hw_J7_copyOf_59c91_410d49) (hts _ hw_J7_copyOf_59c91_4260ff) hK.1 hP hD hS 0 1 0 0 rfl rfl rfl rfl (by omega) (by omega) (by omega) (by omega) (by omega) (by decide) (by omega) (Nat.le_of_ble_eq_true rfl) (Nat.le_of_ble_eq_true rfl) dJ7_copyOf_59c91_28 (fun H locs hP hD hS => ?_)
    have hP : va_P G.1 vwCl [(a, .inl (G.2 0, 300, .inl (av g))), (b, .inl (G.2 0, k.toNat, .inl (av (cpz g (fun _ => 0) 0 0 (imin 300 k)))))] _ := hP
    have hD : va_D A [(a, .inl (G.2 0, 300, .inl (av g))), (b, .inl (G.2 0, k.toNat, .inl (av (cpz g (fun _ => 0) 0 0 (imin 300 k)))))] := hD
    refine lv_aload_n hX_ hB_ dJ7_copyOf_59c91_31 rfl (lv_at hl 0 rfl) ?_
    refine zk_top (y := va_rf (some b)) rfl ?_
    exact fin_q (wf := (fun u : Nat × (Int → Int) => match u with | (b, g2) => [(a, .inl (G.2 0, 300, .inl (av g))), (b, .inl (G.2 0, k.toNat, .inl (av g2)))])) (b, cpz g (fun _ => 0) 0 0 (imin 300 k)) F (Or.inr ⟨_, rfl⟩) hP hD hK hS (by decide) (by omega) dJ7_copyOf_59c91_32 (by exact ⟨rfl, fun j q1 q2 => by rw [him]; unfold cpz; rw [if_pos (by omega)]; congr 1; omega⟩)
  · skip
    refine lv_aload_n hX_ hB_ dJ7_copyOf_59c91_6 rfl (lv_at hl 0 rfl) ?_
    refine va_clone (ad := "[I") hX_ hB_ (by rw [hml]; exact hl.1.symm) hown (hts _ hw_J7_copyOf_59c91_d204b8) (hts _ hw_J7_copyOf_59c91_0ec703) (hts _ hw_J7_copyOf_59c91_f95e91) (hts _ hw_J7_copyOf_59c91_0fafe5) (hts _ hw_J7_copyOf_59c91_220b0a) hE hK.1 hP hD hS hA 0 0 rfl rfl hK.2.1 (fun i v h9 => fit_i h9) (Nat.le_of_ble_eq_true rfl) (Nat.le_of_ble_eq_true rfl) (by decide) (Nat.le_refl 300) dJ7_copyOf_59c91_7 (fun o_7 H _ hP hD hS => ?_)
    have hP : va_P G.1 vwCl [(a, .inl (G.2 0, 300, .inl (av g))), (o_7, .inl (G.2 0, 300, .inl (av g)))] _ := hP
    have hD : va_D A [(a, .inl (G.2 0, 300, .inl (av g))), (o_7, .inl (G.2 0, 300, .inl (av g)))] := hD
    refine va_castA hX_ hB_ hown (hts _ hw_J7_copyOf_59c91_f2a4be) hP 1 rfl hK.2.1 dJ7_copyOf_59c91_10 ?_
    have h300 : k.toNat = 300 := (by omega)
    refine zk_top (y := va_rf (some o_7)) rfl ?_
    exact fin_q (wf := (fun u : Nat × (Int → Int) => match u with | (b, g2) => [(a, .inl (G.2 0, 300, .inl (av g))), (b, .inl (G.2 0, k.toNat, .inl (av g2)))])) (o_7, g) F (Or.inr ⟨_, rfl⟩) (by (try dsimp only); rw [h300]; exact hP) (by (try dsimp only); rw [h300]; exact hD) hK hS (by decide) (by omega) dJ7_copyOf_59c91_13 (by exact ⟨rfl, fun _ _ _ => rfl⟩)
