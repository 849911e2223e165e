
def rowg (dy : Int → Int) (s : Int) : Int → Int := fun j => dy (300 * s + j)
def ChoM (sn : Int) (mn dy : Int → Int) (c : Int → Int) : Prop := ∀ s : Int, 0 ≤ s → s < sn → inN (mn s) = true → Inl (rowg dy s) (mn s) (c s)
def Good (sn : Int) (mn dy pa of : Int → Int) (s v : Int) : Prop := ∀ o : Int, 0 ≤ o → o < sn → pa o = pa s → inN (mn o) = true → Inl (rowg dy o) (mn o) (v - of s + of o)
/-- the rows of the stones that are in the net -/
def RowsM (sn : Int) (mn dy : Int → Int) : Prop := ∀ s : Int, 0 ≤ s → s < sn → inN (mn s) = true → Mono (rowg dy s) (mn s) ∧ ∀ j : Int, 0 ≤ j → j < mn s → 0 ≤ dy (300 * s + j) ∧ dy (300 * s + j) < 4000000
section GoodM
variable {sn : Int} {mn dy pa of : Int → Int} {P : (Int → Int) → Prop}
theorem good_of (h : UF sn pa of P) {c : Int → Int} (hc : ChoM sn mn dy c) (hp : P c) {s : Int} (s0 : 0 ≤ s) (s1 : s < sn) : Good sn mn dy pa of s (c s) := by
  intro o o0 o1 oe om
  have z := (h c).mp hp o s o0 o1 s0 s1 oe
  have z2 := hc o o0 o1 om
  rw [show c s - of s + of o = c o from by omega]
  exact z2
/-- a choice out of the parts' own days -/
theorem good_ex (h : UF sn pa of P) (hg : ∀ s : Int, 0 ≤ s → s < sn → inN (mn s) = true → ∃ v, Good sn mn dy pa of s v) : ∃ c, ChoM sn mn dy c ∧ P c := by
  have h1 : ∀ p : Int, ∃ K : Int, ∀ s : Int, 0 ≤ s → s < sn → inN (mn s) = true → pa s = p → Inl (rowg dy s) (mn s) (K + of s) := by
    intro p
    by_cases q : ∃ s : Int, 0 ≤ s ∧ s < sn ∧ inN (mn s) = true ∧ pa s = p
    · obtain ⟨s, s0, s1, s2, s3⟩ := q
      obtain ⟨v, hv⟩ := hg s s0 s1 s2
      exact ⟨v - of s, fun o o0 o1 o2 o3 => hv o o0 o1 (o3.trans s3.symm) o2⟩
    · exact ⟨0, fun s s0 s1 s2 s3 => absurd ⟨s, s0, s1, s2, s3⟩ q⟩
  obtain ⟨K, hK⟩ := Classical.axiomOfChoice h1
  refine ⟨fun s => K (pa s) + of s, fun s s0 s1 s2 => hK (pa s) s s0 s1 s2 rfl, (h _).mpr (fun x y x0 x1 y0 y1 he => ?_)⟩
  show K (pa x) + of x - of x = K (pa y) + of y - of y
  rw [he]
  omega
theorem good_iff (h : UF sn pa of P) (hf : ∃ c, ChoM sn mn dy c ∧ P c) {s v : Int} (s0 : 0 ≤ s) (s1 : s < sn) (s2 : inN (mn s) = true) : Good sn mn dy pa of s v ↔ ∃ c, ChoM sn mn dy c ∧ P c ∧ c s = v := by
  constructor
  · intro hg
    obtain ⟨c0, c1, c2⟩ := hf
    refine ⟨fun x => if pa x = pa s then v - of s + of x else c0 x, fun o o0 o1 o2 => ?_, (h _).mpr (fun x y x0 x1 y0 y1 he => ?_), ?_⟩
    · show Inl _ _ (if pa o = pa s then v - of s + of o else c0 o)
      by_cases q : pa o = pa s
      · rw [if_pos q]; exact hg o o0 o1 q o2
      · rw [if_neg q]; exact c1 o o0 o1 o2
    · show (if pa x = pa s then v - of s + of x else c0 x) - of x = (if pa y = pa s then v - of s + of y else c0 y) - of y
      by_cases q : pa x = pa s
      · rw [if_pos q, if_pos (he.symm.trans q)]; omega
      · rw [if_neg q, if_neg (fun z => q (he.trans z))]
        exact (h c0).mp c2 x y x0 x1 y0 y1 he
    · show (if pa s = pa s then v - of s + of s else c0 s) = v
      rw [if_pos rfl]; omega
  · rintro ⟨c, c1, c2, rfl⟩
    exact good_of h c1 c2 s0 s1
end GoodM
theorem inN_rng {m : Int} (h : inN m = true) : 1 ≤ m ∧ m ≤ 300 := of_decide_eq_true h
theorem hw_X9_hasDay_627123 : (.fieldLink RX9 27 "StoneDatesModel" "many" "[I" : Cond) ∈ wsX9_hasDay := by decide +kernel
theorem hi_X9_hasDay_X9 : ∀ w ∈ u_ws RX9 TX9 33, w ∈ wsX9_hasDay := by decide +kernel
theorem hw_X9_hasDay_c28315 : (.fieldLink RX9 30 "StoneDatesModel" "days" "[I" : Cond) ∈ wsX9_hasDay := by decide +kernel
set_option maxHeartbeats 4000000 in
set_option maxRecDepth 100000 in
theorem c_X9_hasDay (l : Launch) (G : GG) (mo : Nat) (th : Int) (bsA : Nat) (tw : Int) (tpA : Nat) (td : Int) (sz : Int) (at_ : Int) (iw : Bool) (loA : Nat) (hiA : Nat) (sl : Int64) (sh : Int64) (toA : Nat) (mnA : Nat) (dyA : Nat) (sn : Int) (frA : Nat) (t2A : Nat) (faA : Nat) (dn : Int) (iso : Bool) (akA : Nat) (am : Int) (wr : Int) (paA : Nat) (ofA : Nat) (seA : Nat) (ecA : Nat) (em : Int) (nmA : Nat) (bst : Int) (bmn : Int) (bsm : Int) (mn : Int → Int) (dy : Int → Int) (s9 : Int) (d : Int) (hs : 0 ≤ s9 ∧ s9 < 30) (hd : R31 d) (hm : 1 ≤ mn s9 ∧ mn s9 ≤ 300) (hmo : Mono (rowg dy s9) (mn s9)) (hrg : ∀ j : Int, 0 ≤ j → j < mn s9 → 0 ≤ dy (300 * s9 + j) ∧ dy (300 * s9 + j) < 4000000) : Ci l yX9_hasDay wsX9_hasDay ({ frames := 0, cells := 0, slots := 0, locals := 0 }) G E0 [.ref mo, .int (iz s9), .int (iz d)] [(mo, .inr (7, .int (iz th) :: .ref bsA :: .int (iz tw) :: .ref tpA :: .int (iz td) :: .int (iz sz) :: .int (iz at_) :: .int (zb iw) :: .ref loA :: .ref hiA :: .long sl :: .long sh :: .ref toA :: .ref mnA :: .ref dyA :: .int (iz sn) :: .ref frA :: .ref t2A :: .ref faA :: .int (iz dn) :: .int (zb iso) :: .ref akA :: .int (iz am) :: .int (iz wr) :: .ref paA :: .ref ofA :: .ref seA :: .ref ecA :: .int (iz em) :: .ref nmA :: .int (iz bst) :: .int (iz bmn) :: .long (lz bsm) :: [])), (mnA, .inl (G.2 0, 30, .inl (av mn))), (dyA, .inl (G.2 0, 9000, .inl (av dy)))] 0 0 (fun bb : Bool => [(mo, .inr (7, .int (iz th) :: .ref bsA :: .int (iz tw) :: .ref tpA :: .int (iz td) :: .int (iz sz) :: .int (iz at_) :: .int (zb iw) :: .ref loA :: .ref hiA :: .long sl :: .long sh :: .ref toA :: .ref mnA :: .ref dyA :: .int (iz sn) :: .ref frA :: .ref t2A :: .ref faA :: .int (iz dn) :: .int (zb iso) :: .ref akA :: .int (iz am) :: .int (iz wr) :: .ref paA :: .ref ofA :: .ref seA :: .ref ecA :: .int (iz em) :: .ref nmA :: .int (iz bst) :: .int (iz bmn) :: .long (lz bsm) :: [])), (mnA, .inl (G.2 0, 30, .inl (av mn))), (dyA, .inl (G.2 0, 9000, .inl (av dy)))]) (fun (r : Int32) (bb : Bool) => (r = (zb bb)) ∧ (bb = true ↔ Inl (rowg dy s9) (mn s9) d)) := by
  refine Ci_intro (cc := cX9_hasDay) (maxL := 6) (ret := (some .boolean)) (by decide) rfl (Nat.le_of_ble_eq_true rfl) ?_
  intro p e s m below meth c A F hA hP hD hK hE ls hl
  have hX_ := F.1
  have hB_ := F.2.1
  have hts := F.2.2.2.2.2.1
  have hown := F.2.2.2.2.1
  have hml := F.2.2.2.1
  have hS : va_S A s.heap s.heap [] := va_S.rf
  have hl : lv_has ls 6 [(0, .ref mo), (1, .int (iz s9)), (2, .int (iz d))] := hl
  refine zk_iconst hX_ hB_ dX9_hasDay_0 ?_
  refine lv_istore_n (lv' := [(3, .int (iz 0)), (0, .ref mo), (1, .int (iz s9)), (2, .int (iz d))]) hX_ hB_ dX9_hasDay_1 rfl hl (by decide) rfl (fun ls hl => ?_)
  refine lv_aload_n hX_ hB_ dX9_hasDay_2 rfl (lv_at hl 1 rfl) ?_
  refine va_get (D := G.1) (ci := 7) (v := .ref mnA) (C := RX9) (T := TX9) (N := 33) hX_ hB_ hts hi_X9_hasDay_X9 hown hK.1 hP 0 rfl rfl 13 (by decide) (hts _ hw_X9_hasDay_627123) (fun _ h9 => h9) rfl dX9_hasDay_3 ?_
  refine lv_iload_n hX_ hB_ dX9_hasDay_6 rfl (lv_at hl 2 rfl) ?_
  refine zk_iald hX_ hB_ hK.1 hP 1 0 rfl rfl (by omega) (by decide) dX9_hasDay_7 ?_
  refine zk_iconst hX_ hB_ dX9_hasDay_8 ?_
  refine zk_isub hX_ hB_ dX9_hasDay_9 ?_
  refine lv_istore (lv' := [(4, .int (iz ((mn s9) - 1))), (3, .int (iz 0)), (0, .ref mo), (1, .int (iz s9)), (2, .int (iz d))]) hX_ hB_ dX9_hasDay_10 hl (by decide) rfl (fun ls hl => ?_)
  have loop_12 : ∀ (n_12 : Nat), ∀ (a : Int) (b : Int), (0 ≤ a ∧ a ≤ b ∧ b ≤ mn s9 - 1) → (∀ j : Int, 0 ≤ j → j < a → dy (300 * s9 + j) < d) → (b = mn s9 - 1 ∨ d ≤ dy (300 * s9 + b)) → ((b - a).toNat < n_12) → ∀ (H : Heap) (locs : List Loc), va_P G.1 vwCl [(mo, .inr (7, .int (iz th) :: .ref bsA :: .int (iz tw) :: .ref tpA :: .int (iz td) :: .int (iz sz) :: .int (iz at_) :: .int (zb iw) :: .ref loA :: .ref hiA :: .long sl :: .long sh :: .ref toA :: .ref mnA :: .ref dyA :: .int (iz sn) :: .ref frA :: .ref t2A :: .ref faA :: .int (iz dn) :: .int (zb iso) :: .ref akA :: .int (iz am) :: .int (iz wr) :: .ref paA :: .ref ofA :: .ref seA :: .ref ecA :: .int (iz em) :: .ref nmA :: .int (iz bst) :: .int (iz bmn) :: .long (lz bsm) :: [])), (mnA, .inl (G.2 0, 30, .inl (av mn))), (dyA, .inl (G.2 0, 9000, .inl (av dy)))] H → va_D A [(mo, .inr (7, .int (iz th) :: .ref bsA :: .int (iz tw) :: .ref tpA :: .int (iz td) :: .int (iz sz) :: .int (iz at_) :: .int (zb iw) :: .ref loA :: .ref hiA :: .long sl :: .long sh :: .ref toA :: .ref mnA :: .ref dyA :: .int (iz sn) :: .ref frA :: .ref t2A :: .ref faA :: .int (iz dn) :: .int (zb iso) :: .ref akA :: .int (iz am) :: .int (iz wr) :: .ref paA :: .ref ofA :: .ref seA :: .ref ecA :: .int (iz em) :: .ref nmA :: .int (iz bst) :: .int (iz bmn) :: .long (lz bsm) :: [])), (mnA, .inl (G.2 0, 30, .inl (av mn))), (dyA, .inl (G.2 0, 9000, .inl (av dy)))] → va_S A s.heap H locs → ∀ ls : Array Slot, lv_has ls 6 [(0, .ref mo), (1, .int (iz s9)), (2, .int (iz d)), (3, .int (iz a)), (4, .int (iz b))] → W p l e ({ frames := 0, cells := 0, slots := 0, locals := 0 }) s m ([.ref mo, .int (iz s9), .int (iz d)] : List Value).toArray below meth c H locs 0 0 (MQ below (va_Qi (fun (r : Int32) (bb : Bool) => (r = (zb bb)) ∧ (bb = true ↔ Inl (rowg dy s9) (mn s9) d)) (fun u__ t__ => Pst G A ((fun bb : Bool => [(mo, .inr (7, .int (iz th) :: .ref bsA :: .int (iz tw) :: .ref tpA :: .int (iz td) :: .int (iz sz) :: .int (iz at_) :: .int (zb iw) :: .ref loA :: .ref hiA :: .long sl :: .long sh :: .ref toA :: .ref mnA :: .ref dyA :: .int (iz sn) :: .ref frA :: .ref t2A :: .ref faA :: .int (iz dn) :: .int (zb iso) :: .ref akA :: .int (iz am) :: .int (iz wr) :: .ref paA :: .ref ofA :: .ref seA :: .ref ecA :: .int (iz em) :: .ref nmA :: .int (iz bst) :: .int (iz bmn) :: .long (lz bsm) :: [])), (mnA, .inl (G.2 0, 30, .inl (av mn))), (dyA, .inl (G.2 0, 9000, .inl (av dy)))]) u__) t__) A) ([.ref mo, .int (iz s9), .int (iz d)] : List Value).toArray s 0 0 A) (F0 m 12 ls []) := by
    intro n_12
    induction n_12 with
    | zero =>
      intro a b hab hlo hhi hm H locs hP hD hS ls hl
      exact absurd hm (Nat.not_lt_zero _)
    | succ n_12 ih_12 =>
      intro a b hab hlo hhi hm H locs hP hD hS ls hl
      refine lv_iload_n hX_ hB_ dX9_hasDay_12 rfl (lv_at hl 3 rfl) ?_
      refine lv_iload hX_ hB_ dX9_hasDay_13 (lv_at hl 4 rfl) ?_
      refine zk_icmp_ge (tgt := 58) hX_ hB_ (by omega) (by omega) dX9_hasDay_15 (by decide) (fun c_15 => ?_) (fun c_15 => ?_)
      · skip
        refine lv_aload_n hX_ hB_ dX9_hasDay_58 rfl (lv_at hl 0 rfl) ?_
        refine va_get (D := G.1) (ci := 7) (v := .ref dyA) (C := RX9) (T := TX9) (N := 33) hX_ hB_ hts hi_X9_hasDay_X9 hown hK.1 hP 0 rfl rfl 14 (by decide) (hts _ hw_X9_hasDay_c28315) (fun _ h9 => h9) rfl dX9_hasDay_59 ?_
        refine zk_sipush hX_ hB_ (by decide) dX9_hasDay_62 ?_
        refine lv_iload_n hX_ hB_ dX9_hasDay_65 rfl (lv_at hl 1 rfl) ?_
        refine zk_imul hX_ hB_ dX9_hasDay_66 ?_
        refine lv_iload_n hX_ hB_ dX9_hasDay_67 rfl (lv_at hl 3 rfl) ?_
        refine zk_iadd hX_ hB_ dX9_hasDay_68 ?_
        have hra := hrg a (by omega) (by omega)
        refine zk_iald hX_ hB_ hK.1 hP 2 0 rfl rfl (by omega) (by decide) dX9_hasDay_69 ?_
        refine lv_iload_n hX_ hB_ dX9_hasDay_70 rfl (lv_at hl 2 rfl) ?_
        refine zk_icmp_ne (tgt := 78) hX_ hB_ (by omega) (by omega) dX9_hasDay_71 (by decide) (fun c_71 => ?_) (fun c_71 => ?_)
        · skip
          refine zk_iconst hX_ hB_ dX9_hasDay_78 ?_
          refine zk_topi (y := (zb false)) rfl ?_
          exact fin_i (wf := (fun bb : Bool => [(mo, .inr (7, .int (iz th) :: .ref bsA :: .int (iz tw) :: .ref tpA :: .int (iz td) :: .int (iz sz) :: .int (iz at_) :: .int (zb iw) :: .ref loA :: .ref hiA :: .long sl :: .long sh :: .ref toA :: .ref mnA :: .ref dyA :: .int (iz sn) :: .ref frA :: .ref t2A :: .ref faA :: .int (iz dn) :: .int (zb iso) :: .ref akA :: .int (iz am) :: .int (iz wr) :: .ref paA :: .ref ofA :: .ref seA :: .ref ecA :: .int (iz em) :: .ref nmA :: .int (iz bst) :: .int (iz bmn) :: .long (lz bsm) :: [])), (mnA, .inl (G.2 0, 30, .inl (av mn))), (dyA, .inl (G.2 0, 9000, .inl (av dy)))])) false F (zb_nar _) hP hD hK hS (by decide) (by decide) dX9_hasDay_79 (by refine ⟨rfl, fun q => absurd q (by decide), fun ⟨t, t0, t1, t2⟩ => ?_⟩; have t3 : dy (300 * s9 + t) = d := t2; exfalso; rcases (show t < a ∨ t = a ∨ a < t by omega) with q | q | q; (have := hlo t t0 q; omega); (rw [q] at t3; exact c_71 t3); (have z : dy (300 * s9 + a) < dy (300 * s9 + t) := hmo a t (by omega) q t1; rw [show b = a from by omega] at hhi; omega))
        · skip
          refine zk_iconst hX_ hB_ dX9_hasDay_74 ?_
          refine zk_topi (y := (zb true)) rfl ?_
          refine lv_goto (tgt := 79) hX_ hB_ dX9_hasDay_75 (by decide) ?_
          exact fin_i (wf := (fun bb : Bool => [(mo, .inr (7, .int (iz th) :: .ref bsA :: .int (iz tw) :: .ref tpA :: .int (iz td) :: .int (iz sz) :: .int (iz at_) :: .int (zb iw) :: .ref loA :: .ref hiA :: .long sl :: .long sh :: .ref toA :: .ref mnA :: .ref dyA :: .int (iz sn) :: .ref frA :: .ref t2A :: .ref faA :: .int (iz dn) :: .int (zb iso) :: .ref akA :: .int (iz am) :: .int (iz wr) :: .ref paA :: .ref ofA :: .ref seA :: .ref ecA :: .int (iz em) :: .ref nmA :: .int (iz bst) :: .int (iz bmn) :: .long (lz bsm) :: [])), (mnA, .inl (G.2 0, 30, .inl (av mn))), (dyA, .inl (G.2 0, 9000, .inl (av dy)))])) true F (zb_nar _) hP hD hK hS (by decide) (by decide) dX9_hasDay_79 (by exact ⟨rfl, fun _ => ⟨a, by omega, by omega, c_71⟩, fun _ => rfl⟩)
      · skip
        refine lv_iload_n hX_ hB_ dX9_hasDay_18 rfl (lv_at hl 3 rfl) ?_
        refine lv_iload hX_ hB_ dX9_hasDay_19 (lv_at hl 4 rfl) ?_
        refine zk_iadd hX_ hB_ dX9_hasDay_21 ?_
        refine zk_iconst hX_ hB_ dX9_hasDay_22 ?_
        refine zk_idiv hX_ hB_ (by omega) (by omega) (by omega) (by omega) dX9_hasDay_23 ?_
        refine lv_istore (lv' := [(5, .int (iz ((a + b) / 2))), (0, .ref mo), (1, .int (iz s9)), (2, .int (iz d)), (3, .int (iz a)), (4, .int (iz b))]) hX_ hB_ dX9_hasDay_24 hl (by decide) rfl (fun ls hl => ?_)
        refine lv_aload_n hX_ hB_ dX9_hasDay_26 rfl (lv_at hl 1 rfl) ?_
        refine va_get (D := G.1) (ci := 7) (v := .ref dyA) (C := RX9) (T := TX9) (N := 33) hX_ hB_ hts hi_X9_hasDay_X9 hown hK.1 hP 0 rfl rfl 14 (by decide) (hts _ hw_X9_hasDay_c28315) (fun _ h9 => h9) rfl dX9_hasDay_27 ?_
        refine zk_sipush hX_ hB_ (by decide) dX9_hasDay_30 ?_
        refine lv_iload_n hX_ hB_ dX9_hasDay_33 rfl (lv_at hl 2 rfl) ?_
        refine zk_imul hX_ hB_ dX9_hasDay_34 ?_
        refine lv_iload hX_ hB_ dX9_hasDay_35 (lv_at hl 0 rfl) ?_
        refine zk_iadd hX_ hB_ dX9_hasDay_37 ?_
        have hrm := hrg ((a + b) / 2) (by omega) (by omega)
        refine zk_iald hX_ hB_ hK.1 hP 2 0 rfl rfl (by omega) (by decide) dX9_hasDay_38 ?_
        refine lv_iload_n hX_ hB_ dX9_hasDay_39 rfl (lv_at hl 3 rfl) ?_
        refine zk_icmp_ge (tgt := 51) hX_ hB_ (by omega) (by omega) dX9_hasDay_40 (by decide) (fun c_40 => ?_) (fun c_40 => ?_)
        · skip
          refine lv_iload hX_ hB_ dX9_hasDay_51 (lv_at hl 0 rfl) ?_
          refine lv_istore (lv' := [(4, .int (iz ((a + b) / 2))), (5, .int (iz ((a + b) / 2))), (0, .ref mo), (1, .int (iz s9)), (2, .int (iz d)), (3, .int (iz a))]) hX_ hB_ dX9_hasDay_53 hl (by decide) rfl (fun ls hl => ?_)
          refine lv_goto (tgt := 12) hX_ hB_ dX9_hasDay_55 (by decide) ?_
          exact ih_12 a ((a + b) / 2) (by omega) (by exact hlo) (by right; omega) (by omega) _ _ hP hD hS ls (lv_sub hl [2, 3, 4, 5, 0] rfl)
        · skip
          refine lv_iload hX_ hB_ dX9_hasDay_43 (lv_at hl 0 rfl) ?_
          refine zk_iconst hX_ hB_ dX9_hasDay_45 ?_
          refine zk_iadd hX_ hB_ dX9_hasDay_46 ?_
          refine lv_istore_n (lv' := [(3, .int (iz (((a + b) / 2) + 1))), (5, .int (iz ((a + b) / 2))), (0, .ref mo), (1, .int (iz s9)), (2, .int (iz d)), (4, .int (iz b))]) hX_ hB_ dX9_hasDay_47 rfl hl (by decide) rfl (fun ls hl => ?_)
          refine lv_goto (tgt := 55) hX_ hB_ dX9_hasDay_48 (by decide) ?_
          refine lv_goto (tgt := 12) hX_ hB_ dX9_hasDay_55 (by decide) ?_
          exact ih_12 (((a + b) / 2) + 1) b (by omega) (by intro j h1 h2; rcases (show j < (a + b) / 2 ∨ j = (a + b) / 2 by omega) with q | q; (have z : dy (300 * s9 + j) < dy (300 * s9 + (a + b) / 2) := hmo j ((a + b) / 2) h1 q (by omega); omega); (rw [q]; omega)) (by exact hhi) (by omega) _ _ hP hD hS ls (lv_sub hl [2, 3, 4, 0, 5] rfl)
  exact loop_12 _ 0 ((mn s9) - 1) (by omega) (by intro j h1 h2; omega) (by left; rfl) (Nat.lt_succ_self _) _ _ hP hD hS ls (lv_sub hl [2, 3, 4, 1, 0] rfl)

theorem hw_X9_isGood_39ede4 : (.fieldLink RX9 163 "StoneDatesModel" "stones" "I" : Cond) ∈ wsX9_isGood := by decide +kernel
theorem hi_X9_isGood_X9 : ∀ w ∈ u_ws RX9 TX9 33, w ∈ wsX9_isGood := by decide +kernel
theorem hw_X9_isGood_c47d07 : (.fieldLink RX9 45 "StoneDatesModel" "part" "[I" : Cond) ∈ wsX9_isGood := by decide +kernel
theorem hw_X9_isGood_df8a6c : (.fieldLink RX9 48 "StoneDatesModel" "off" "[I" : Cond) ∈ wsX9_isGood := by decide +kernel
theorem mdv_X9_hasDay : yX9_hasDay.cls = RX9 ∧ yX9_hasDay.cls ≠ "java/lang/invoke/MethodHandle" ∧ yX9_hasDay.cls ≠ "java/lang/invoke/VarHandle" ∧ (parseMethodDescriptor yX9_hasDay.desc).map (fun d => d.parameters.length) = some 2 := by decide +kernel
set_option maxHeartbeats 4000000 in
set_option maxRecDepth 100000 in
theorem c_X9_isGood (l : Launch) (G : GG) (mo : Nat) (th : Int) (bsA : Nat) (tw : Int) (tpA : Nat) (td : Int) (sz : Int) (at_ : Int) (iw : Bool) (loA : Nat) (hiA : Nat) (sl : Int64) (sh : Int64) (toA : Nat) (mnA : Nat) (dyA : Nat) (sn : Int) (frA : Nat) (t2A : Nat) (faA : Nat) (dn : Int) (iso : Bool) (akA : Nat) (am : Int) (wr : Int) (paA : Nat) (ofA : Nat) (seA : Nat) (ecA : Nat) (em : Int) (nmA : Nat) (bst : Int) (bmn : Int) (bsm : Int) (mn : Int → Int) (dy : Int → Int) (pa : Int → Int) (of : Int → Int) (s9 : Int) (d : Int) (hsn : 0 ≤ sn ∧ sn ≤ 30) (hmn : ∀ j : Int, 0 ≤ mn j ∧ mn j ≤ 432000) (hrw : RowsM sn mn dy) (hur : UR sn pa of 2047500000) (hs : 0 ≤ s9 ∧ s9 < sn) (hd : 0 ≤ d ∧ d < 4000000) : Ci l yX9_isGood wsX9_isGood ({ frames := 1, cells := 0, slots := 0, locals := 25 }) G E0 [.ref mo, .int (iz s9), .int (iz d)] [(mo, .inr (7, .int (iz th) :: .ref bsA :: .int (iz tw) :: .ref tpA :: .int (iz td) :: .int (iz sz) :: .int (iz at_) :: .int (zb iw) :: .ref loA :: .ref hiA :: .long sl :: .long sh :: .ref toA :: .ref mnA :: .ref dyA :: .int (iz sn) :: .ref frA :: .ref t2A :: .ref faA :: .int (iz dn) :: .int (zb iso) :: .ref akA :: .int (iz am) :: .int (iz wr) :: .ref paA :: .ref ofA :: .ref seA :: .ref ecA :: .int (iz em) :: .ref nmA :: .int (iz bst) :: .int (iz bmn) :: .long (lz bsm) :: [])), (mnA, .inl (G.2 0, 30, .inl (av mn))), (dyA, .inl (G.2 0, 9000, .inl (av dy))), (paA, .inl (G.2 0, 30, .inl (av pa))), (ofA, .inl (G.2 0, 30, .inl (av of)))] 0 0 (fun bb : Bool => [(mo, .inr (7, .int (iz th) :: .ref bsA :: .int (iz tw) :: .ref tpA :: .int (iz td) :: .int (iz sz) :: .int (iz at_) :: .int (zb iw) :: .ref loA :: .ref hiA :: .long sl :: .long sh :: .ref toA :: .ref mnA :: .ref dyA :: .int (iz sn) :: .ref frA :: .ref t2A :: .ref faA :: .int (iz dn) :: .int (zb iso) :: .ref akA :: .int (iz am) :: .int (iz wr) :: .ref paA :: .ref ofA :: .ref seA :: .ref ecA :: .int (iz em) :: .ref nmA :: .int (iz bst) :: .int (iz bmn) :: .long (lz bsm) :: [])), (mnA, .inl (G.2 0, 30, .inl (av mn))), (dyA, .inl (G.2 0, 9000, .inl (av dy))), (paA, .inl (G.2 0, 30, .inl (av pa))), (ofA, .inl (G.2 0, 30, .inl (av of)))]) (fun (r : Int32) (bb : Bool) => (r = (zb bb)) ∧ (bb = true ↔ Good sn mn dy pa of s9 d)) := by
  refine Ci_intro (cc := cX9_isGood) (maxL := 4) (ret := (some .boolean)) (by decide) rfl (Nat.le_of_ble_eq_true rfl) ?_
  intro p e s m below meth c A F hA hP hD hK hE ls hl
  have hX_ := F.1
  have hB_ := F.2.1
  have hts := F.2.2.2.2.2.1
  have hown := F.2.2.2.2.1
  have hml := F.2.2.2.1
  have hS : va_S A s.heap s.heap [] := va_S.rf
  have hl : lv_has ls 4 [(0, .ref mo), (1, .int (iz s9)), (2, .int (iz d))] := hl
  refine zk_iconst hX_ hB_ dX9_isGood_0 ?_
  refine lv_istore_n (lv' := [(3, .int (iz 0)), (0, .ref mo), (1, .int (iz s9)), (2, .int (iz d))]) hX_ hB_ dX9_isGood_1 rfl hl (by decide) rfl (fun ls hl => ?_)
  have loop_2 : ∀ (n_2 : Nat), ∀ (i : Int), (0 ≤ i ∧ i ≤ sn) → (∀ o : Int, 0 ≤ o → o < i → pa o = pa s9 → inN (mn o) = true → Inl (rowg dy o) (mn o) (d - of s9 + of o)) → ((sn - i).toNat < n_2) → ∀ (H : Heap) (locs : List Loc), va_P G.1 vwCl [(mo, .inr (7, .int (iz th) :: .ref bsA :: .int (iz tw) :: .ref tpA :: .int (iz td) :: .int (iz sz) :: .int (iz at_) :: .int (zb iw) :: .ref loA :: .ref hiA :: .long sl :: .long sh :: .ref toA :: .ref mnA :: .ref dyA :: .int (iz sn) :: .ref frA :: .ref t2A :: .ref faA :: .int (iz dn) :: .int (zb iso) :: .ref akA :: .int (iz am) :: .int (iz wr) :: .ref paA :: .ref ofA :: .ref seA :: .ref ecA :: .int (iz em) :: .ref nmA :: .int (iz bst) :: .int (iz bmn) :: .long (lz bsm) :: [])), (mnA, .inl (G.2 0, 30, .inl (av mn))), (dyA, .inl (G.2 0, 9000, .inl (av dy))), (paA, .inl (G.2 0, 30, .inl (av pa))), (ofA, .inl (G.2 0, 30, .inl (av of)))] H → va_D A [(mo, .inr (7, .int (iz th) :: .ref bsA :: .int (iz tw) :: .ref tpA :: .int (iz td) :: .int (iz sz) :: .int (iz at_) :: .int (zb iw) :: .ref loA :: .ref hiA :: .long sl :: .long sh :: .ref toA :: .ref mnA :: .ref dyA :: .int (iz sn) :: .ref frA :: .ref t2A :: .ref faA :: .int (iz dn) :: .int (zb iso) :: .ref akA :: .int (iz am) :: .int (iz wr) :: .ref paA :: .ref ofA :: .ref seA :: .ref ecA :: .int (iz em) :: .ref nmA :: .int (iz bst) :: .int (iz bmn) :: .long (lz bsm) :: [])), (mnA, .inl (G.2 0, 30, .inl (av mn))), (dyA, .inl (G.2 0, 9000, .inl (av dy))), (paA, .inl (G.2 0, 30, .inl (av pa))), (ofA, .inl (G.2 0, 30, .inl (av of)))] → va_S A s.heap H locs → ∀ ls : Array Slot, lv_has ls 4 [(0, .ref mo), (1, .int (iz s9)), (2, .int (iz d)), (3, .int (iz i))] → W p l e ({ frames := 1, cells := 0, slots := 0, locals := 25 }) s m ([.ref mo, .int (iz s9), .int (iz d)] : List Value).toArray below meth c H locs 0 0 (MQ below (va_Qi (fun (r : Int32) (bb : Bool) => (r = (zb bb)) ∧ (bb = true ↔ Good sn mn dy pa of s9 d)) (fun u__ t__ => Pst G A ((fun bb : Bool => [(mo, .inr (7, .int (iz th) :: .ref bsA :: .int (iz tw) :: .ref tpA :: .int (iz td) :: .int (iz sz) :: .int (iz at_) :: .int (zb iw) :: .ref loA :: .ref hiA :: .long sl :: .long sh :: .ref toA :: .ref mnA :: .ref dyA :: .int (iz sn) :: .ref frA :: .ref t2A :: .ref faA :: .int (iz dn) :: .int (zb iso) :: .ref akA :: .int (iz am) :: .int (iz wr) :: .ref paA :: .ref ofA :: .ref seA :: .ref ecA :: .int (iz em) :: .ref nmA :: .int (iz bst) :: .int (iz bmn) :: .long (lz bsm) :: [])), (mnA, .inl (G.2 0, 30, .inl (av mn))), (dyA, .inl (G.2 0, 9000, .inl (av dy))), (paA, .inl (G.2 0, 30, .inl (av pa))), (ofA, .inl (G.2 0, 30, .inl (av of)))]) u__) t__) A) ([.ref mo, .int (iz s9), .int (iz d)] : List Value).toArray s 0 0 A) (F0 m 2 ls []) := by
    intro n_2
    induction n_2 with
    | zero =>
      intro i hi hg hm H locs hP hD hS ls hl
      exact absurd hm (Nat.not_lt_zero _)
    | succ n_2 ih_2 =>
      intro i hi hg hm H locs hP hD hS ls hl
      refine lv_iload_n hX_ hB_ dX9_isGood_2 rfl (lv_at hl 3 rfl) ?_
      refine lv_aload_n hX_ hB_ dX9_isGood_3 rfl (lv_at hl 0 rfl) ?_
      refine va_get (D := G.1) (ci := 7) (v := .int (iz sn)) (C := RX9) (T := TX9) (N := 33) hX_ hB_ hts hi_X9_isGood_X9 hown hK.1 hP 0 rfl rfl 15 (by decide) (hts _ hw_X9_isGood_39ede4) (fun _ h9 => h9) rfl dX9_isGood_4 ?_
      refine zk_icmp_ge (tgt := 64) hX_ hB_ (by omega) (by omega) dX9_isGood_7 (by decide) (fun c_7 => ?_) (fun c_7 => ?_)
      · skip
        refine zk_iconst hX_ hB_ dX9_isGood_64 ?_
        refine zk_topi (y := (zb true)) rfl ?_
        exact fin_i (wf := (fun bb : Bool => [(mo, .inr (7, .int (iz th) :: .ref bsA :: .int (iz tw) :: .ref tpA :: .int (iz td) :: .int (iz sz) :: .int (iz at_) :: .int (zb iw) :: .ref loA :: .ref hiA :: .long sl :: .long sh :: .ref toA :: .ref mnA :: .ref dyA :: .int (iz sn) :: .ref frA :: .ref t2A :: .ref faA :: .int (iz dn) :: .int (zb iso) :: .ref akA :: .int (iz am) :: .int (iz wr) :: .ref paA :: .ref ofA :: .ref seA :: .ref ecA :: .int (iz em) :: .ref nmA :: .int (iz bst) :: .int (iz bmn) :: .long (lz bsm) :: [])), (mnA, .inl (G.2 0, 30, .inl (av mn))), (dyA, .inl (G.2 0, 9000, .inl (av dy))), (paA, .inl (G.2 0, 30, .inl (av pa))), (ofA, .inl (G.2 0, 30, .inl (av of)))])) true F (zb_nar _) hP hD hK hS (by decide) (by decide) dX9_isGood_65 (by exact ⟨rfl, fun _ o h1 h2 => hg o h1 (by omega), fun _ => rfl⟩)
      · skip
        have hps := hur.1 s9 (by omega) (by omega)
        have hpi := hur.1 i (by omega) (by omega)
        refine lv_aload_n hX_ hB_ dX9_isGood_10 rfl (lv_at hl 0 rfl) ?_
        refine va_get (D := G.1) (ci := 7) (v := .ref paA) (C := RX9) (T := TX9) (N := 33) hX_ hB_ hts hi_X9_isGood_X9 hown hK.1 hP 0 rfl rfl 24 (by decide) (hts _ hw_X9_isGood_c47d07) (fun _ h9 => h9) rfl dX9_isGood_11 ?_
        refine lv_iload_n hX_ hB_ dX9_isGood_14 rfl (lv_at hl 3 rfl) ?_
        refine zk_iald hX_ hB_ hK.1 hP 3 0 rfl rfl (by omega) (by decide) dX9_isGood_15 ?_
        refine lv_aload_n hX_ hB_ dX9_isGood_16 rfl (lv_at hl 0 rfl) ?_
        refine va_get (D := G.1) (ci := 7) (v := .ref paA) (C := RX9) (T := TX9) (N := 33) hX_ hB_ hts hi_X9_isGood_X9 hown hK.1 hP 0 rfl rfl 24 (by decide) (hts _ hw_X9_isGood_c47d07) (fun _ h9 => h9) rfl dX9_isGood_17 ?_
        refine lv_iload_n hX_ hB_ dX9_isGood_20 rfl (lv_at hl 1 rfl) ?_
        refine zk_iald hX_ hB_ hK.1 hP 3 0 rfl rfl (by omega) (by decide) dX9_isGood_21 ?_
        refine zk_icmp_ne (tgt := 58) hX_ hB_ (by omega) (by omega) dX9_isGood_22 (by decide) (fun c_22 => ?_) (fun c_22 => ?_)
        · skip
          refine lv_iinc (v := (iz (i + 1))) (lv' := [(3, .int (iz (i + 1))), (0, .ref mo), (1, .int (iz s9)), (2, .int (iz d))]) hX_ hB_ dX9_isGood_58 hl (k := 3) rfl (iz_add _ _) (by decide) rfl (fun ls hl => ?_)
          refine lv_goto (tgt := 2) hX_ hB_ dX9_isGood_61 (by decide) ?_
          exact ih_2 (i + 1) (by omega) (by intro o h1 h2 h3 h4; rcases (show o < i ∨ o = i by omega) with q | q; exact hg o h1 q h3 h4; (rw [q] at h3; exact absurd h3 c_22)) (by omega) _ _ hP hD hS ls (lv_sub hl [1, 2, 3, 0] rfl)
        · skip
          refine lv_aload_n hX_ hB_ dX9_isGood_25 rfl (lv_at hl 0 rfl) ?_
          refine lv_iload_n hX_ hB_ dX9_isGood_26 rfl (lv_at hl 3 rfl) ?_
          refine back_i (wr := [(dyA, .inl (G.2 0, 9000, .inl (av dy))), (paA, .inl (G.2 0, 30, .inl (av pa))), (ofA, .inl (G.2 0, 30, .inl (av of)))]) (run_V (As := [.int (iz i)]) (rest := []) (wc := [(mo, .inr (7, .int (iz th) :: .ref bsA :: .int (iz tw) :: .ref tpA :: .int (iz td) :: .int (iz sz) :: .int (iz at_) :: .int (zb iw) :: .ref loA :: .ref hiA :: .long sl :: .long sh :: .ref toA :: .ref mnA :: .ref dyA :: .int (iz sn) :: .ref frA :: .ref t2A :: .ref faA :: .int (iz dn) :: .int (zb iso) :: .ref akA :: .int (iz am) :: .int (iz wr) :: .ref paA :: .ref ofA :: .ref seA :: .ref ecA :: .int (iz em) :: .ref nmA :: .int (iz bst) :: .int (iz bmn) :: .long (lz bsm) :: [])), (mnA, .inl (G.2 0, 30, .inl (av mn)))]) F (c_X9_inNet l G mo th bsA tw tpA td sz at_ iw loA hiA sl sh toA mnA dyA sn frA t2A faA dn iso akA am wr paA ofA seA ecA em nmA bst bmn bsm mn i (by omega) hmn _) ext0 gX9_isGood_X9_inNet rfl rfl rfl mdv_X9_inNet ⟨Nat.le_of_ble_eq_true rfl, Nat.le_of_ble_eq_true rfl⟩ (va_recv hK.1 (hP.sub (ws' := [(mo, .inr (7, .int (iz th) :: .ref bsA :: .int (iz tw) :: .ref tpA :: .int (iz td) :: .int (iz sz) :: .int (iz at_) :: .int (zb iw) :: .ref loA :: .ref hiA :: .long sl :: .long sh :: .ref toA :: .ref mnA :: .ref dyA :: .int (iz sn) :: .ref frA :: .ref t2A :: .ref faA :: .int (iz dn) :: .int (zb iso) :: .ref akA :: .int (iz am) :: .int (iz wr) :: .ref paA :: .ref ofA :: .ref seA :: .ref ecA :: .int (iz em) :: .ref nmA :: .int (iz bst) :: .int (iz bmn) :: .long (lz bsm) :: [])), (mnA, .inl (G.2 0, 30, .inl (av mn)))]) [0, 1] rfl) (ci := 7) (q0 := 0) rfl rfl) (pre_of ext0 hK hP hD hS hA trivial [0, 1] (by decide) rfl _) rfl hl.1 (Nat.le_of_ble_eq_true rfl) dX9_isGood_27 ⟨by decide, by decide⟩) hP hD hS hA [0, 1] [2, 3, 4] rfl rfl (by decide) (by decide) (fun r__ u__ H locs hw hP hD hS => ?_)
          subst hw
          have hP := hP.sub (ws' := [(mo, .inr (7, .int (iz th) :: .ref bsA :: .int (iz tw) :: .ref tpA :: .int (iz td) :: .int (iz sz) :: .int (iz at_) :: .int (zb iw) :: .ref loA :: .ref hiA :: .long sl :: .long sh :: .ref toA :: .ref mnA :: .ref dyA :: .int (iz sn) :: .ref frA :: .ref t2A :: .ref faA :: .int (iz dn) :: .int (zb iso) :: .ref akA :: .int (iz am) :: .int (iz wr) :: .ref paA :: .ref ofA :: .ref seA :: .ref ecA :: .int (iz em) :: .ref nmA :: .int (iz bst) :: .int (iz bmn) :: .long (lz bsm) :: [])), (mnA, .inl (G.2 0, 30, .inl (av mn))), (dyA, .inl (G.2 0, 9000, .inl (av dy))), (paA, .inl (G.2 0, 30, .inl (av pa))), (ofA, .inl (G.2 0, 30, .inl (av of)))]) [3, 4, 0, 1, 2] rfl
          have hD := hD.sub (ws' := [(mo, .inr (7, .int (iz th) :: .ref bsA :: .int (iz tw) :: .ref tpA :: .int (iz td) :: .int (iz sz) :: .int (iz at_) :: .int (zb iw) :: .ref loA :: .ref hiA :: .long sl :: .long sh :: .ref toA :: .ref mnA :: .ref dyA :: .int (iz sn) :: .ref frA :: .ref t2A :: .ref faA :: .int (iz dn) :: .int (zb iso) :: .ref akA :: .int (iz am) :: .int (iz wr) :: .ref paA :: .ref ofA :: .ref seA :: .ref ecA :: .int (iz em) :: .ref nmA :: .int (iz bst) :: .int (iz bmn) :: .long (lz bsm) :: [])), (mnA, .inl (G.2 0, 30, .inl (av mn))), (dyA, .inl (G.2 0, 9000, .inl (av dy))), (paA, .inl (G.2 0, 30, .inl (av pa))), (ofA, .inl (G.2 0, 30, .inl (av of)))]) [3, 4, 0, 1, 2] (by decide) rfl
          refine zk_bif_eq (tgt := 58) hX_ hB_ dX9_isGood_30 (by decide) (fun c_30 => ?_) (fun c_30 => ?_)
          · skip
            refine lv_iinc (v := (iz (i + 1))) (lv' := [(3, .int (iz (i + 1))), (0, .ref mo), (1, .int (iz s9)), (2, .int (iz d))]) hX_ hB_ dX9_isGood_58 hl (k := 3) rfl (iz_add _ _) (by decide) rfl (fun ls hl => ?_)
            refine lv_goto (tgt := 2) hX_ hB_ dX9_isGood_61 (by decide) ?_
            exact ih_2 (i + 1) (by omega) (by intro o h1 h2 h3 h4; rcases (show o < i ∨ o = i by omega) with q | q; exact hg o h1 q h3 h4; (rw [q, c_30] at h4; cases h4)) (by omega) _ _ hP hD hS ls (lv_sub hl [1, 2, 3, 0] rfl)
          · skip
            have hin := inN_rng c_30
            have hos := UR_of hur (x := s9) (by omega) (by omega)
            have hoo := hur.2 i s9 (by omega) (by omega) (by omega) (by omega) c_22
            have hri := hrw i (by omega) (by omega) c_30
            refine lv_aload_n hX_ hB_ dX9_isGood_33 rfl (lv_at hl 0 rfl) ?_
            refine lv_iload_n hX_ hB_ dX9_isGood_34 rfl (lv_at hl 3 rfl) ?_
            refine lv_iload_n hX_ hB_ dX9_isGood_35 rfl (lv_at hl 2 rfl) ?_
            refine lv_aload_n hX_ hB_ dX9_isGood_36 rfl (lv_at hl 0 rfl) ?_
            refine va_get (D := G.1) (ci := 7) (v := .ref ofA) (C := RX9) (T := TX9) (N := 33) hX_ hB_ hts hi_X9_isGood_X9 hown hK.1 hP 0 rfl rfl 25 (by decide) (hts _ hw_X9_isGood_df8a6c) (fun _ h9 => h9) rfl dX9_isGood_37 ?_
            refine lv_iload_n hX_ hB_ dX9_isGood_40 rfl (lv_at hl 1 rfl) ?_
            refine zk_iald hX_ hB_ hK.1 hP 4 0 rfl rfl (by omega) (by decide) dX9_isGood_41 ?_
            refine zk_isub hX_ hB_ dX9_isGood_42 ?_
            refine lv_aload_n hX_ hB_ dX9_isGood_43 rfl (lv_at hl 0 rfl) ?_
            refine va_get (D := G.1) (ci := 7) (v := .ref ofA) (C := RX9) (T := TX9) (N := 33) hX_ hB_ hts hi_X9_isGood_X9 hown hK.1 hP 0 rfl rfl 25 (by decide) (hts _ hw_X9_isGood_df8a6c) (fun _ h9 => h9) rfl dX9_isGood_44 ?_
            refine lv_iload_n hX_ hB_ dX9_isGood_47 rfl (lv_at hl 3 rfl) ?_
            refine zk_iald hX_ hB_ hK.1 hP 4 0 rfl rfl (by omega) (by decide) dX9_isGood_48 ?_
            refine zk_iadd hX_ hB_ dX9_isGood_49 ?_
            refine back_i (wr := [(paA, .inl (G.2 0, 30, .inl (av pa))), (ofA, .inl (G.2 0, 30, .inl (av of)))]) (run_V (As := [.int (iz i), .int (iz ((d - (of s9)) + (of i)))]) (rest := []) (wc := [(mo, .inr (7, .int (iz th) :: .ref bsA :: .int (iz tw) :: .ref tpA :: .int (iz td) :: .int (iz sz) :: .int (iz at_) :: .int (zb iw) :: .ref loA :: .ref hiA :: .long sl :: .long sh :: .ref toA :: .ref mnA :: .ref dyA :: .int (iz sn) :: .ref frA :: .ref t2A :: .ref faA :: .int (iz dn) :: .int (zb iso) :: .ref akA :: .int (iz am) :: .int (iz wr) :: .ref paA :: .ref ofA :: .ref seA :: .ref ecA :: .int (iz em) :: .ref nmA :: .int (iz bst) :: .int (iz bmn) :: .long (lz bsm) :: [])), (mnA, .inl (G.2 0, 30, .inl (av mn))), (dyA, .inl (G.2 0, 9000, .inl (av dy)))]) F (c_X9_hasDay l G mo th bsA tw tpA td sz at_ iw loA hiA sl sh toA mnA dyA sn frA t2A faA dn iso akA am wr paA ofA seA ecA em nmA bst bmn bsm mn dy i ((d - (of s9)) + (of i)) (by omega) (by omega) hin hri.1 hri.2 _) ext0 gX9_isGood_X9_hasDay rfl rfl rfl mdv_X9_hasDay ⟨Nat.le_of_ble_eq_true rfl, Nat.le_of_ble_eq_true rfl⟩ (va_recv hK.1 (hP.sub (ws' := [(mo, .inr (7, .int (iz th) :: .ref bsA :: .int (iz tw) :: .ref tpA :: .int (iz td) :: .int (iz sz) :: .int (iz at_) :: .int (zb iw) :: .ref loA :: .ref hiA :: .long sl :: .long sh :: .ref toA :: .ref mnA :: .ref dyA :: .int (iz sn) :: .ref frA :: .ref t2A :: .ref faA :: .int (iz dn) :: .int (zb iso) :: .ref akA :: .int (iz am) :: .int (iz wr) :: .ref paA :: .ref ofA :: .ref seA :: .ref ecA :: .int (iz em) :: .ref nmA :: .int (iz bst) :: .int (iz bmn) :: .long (lz bsm) :: [])), (mnA, .inl (G.2 0, 30, .inl (av mn))), (dyA, .inl (G.2 0, 9000, .inl (av dy)))]) [0, 1, 2] rfl) (ci := 7) (q0 := 0) rfl rfl) (pre_of ext0 hK hP hD hS hA trivial [0, 1, 2] (by decide) rfl _) rfl hl.1 (Nat.le_of_ble_eq_true rfl) dX9_isGood_50 ⟨by decide, by decide⟩) hP hD hS hA [0, 1, 2] [3, 4] rfl rfl (by decide) (by decide) (fun r__ u__ H locs hw hP hD hS => ?_)
            obtain ⟨bb_50, rfl⟩ : ∃ z, z = u__ := ⟨_, rfl⟩
            try dsimp only at hw hP hD
            obtain ⟨rfl, hw_50⟩ := hw
            have hP := hP.sub (ws' := [(mo, .inr (7, .int (iz th) :: .ref bsA :: .int (iz tw) :: .ref tpA :: .int (iz td) :: .int (iz sz) :: .int (iz at_) :: .int (zb iw) :: .ref loA :: .ref hiA :: .long sl :: .long sh :: .ref toA :: .ref mnA :: .ref dyA :: .int (iz sn) :: .ref frA :: .ref t2A :: .ref faA :: .int (iz dn) :: .int (zb iso) :: .ref akA :: .int (iz am) :: .int (iz wr) :: .ref paA :: .ref ofA :: .ref seA :: .ref ecA :: .int (iz em) :: .ref nmA :: .int (iz bst) :: .int (iz bmn) :: .long (lz bsm) :: [])), (mnA, .inl (G.2 0, 30, .inl (av mn))), (dyA, .inl (G.2 0, 9000, .inl (av dy))), (paA, .inl (G.2 0, 30, .inl (av pa))), (ofA, .inl (G.2 0, 30, .inl (av of)))]) [2, 3, 4, 0, 1] rfl
            have hD := hD.sub (ws' := [(mo, .inr (7, .int (iz th) :: .ref bsA :: .int (iz tw) :: .ref tpA :: .int (iz td) :: .int (iz sz) :: .int (iz at_) :: .int (zb iw) :: .ref loA :: .ref hiA :: .long sl :: .long sh :: .ref toA :: .ref mnA :: .ref dyA :: .int (iz sn) :: .ref frA :: .ref t2A :: .ref faA :: .int (iz dn) :: .int (zb iso) :: .ref akA :: .int (iz am) :: .int (iz wr) :: .ref paA :: .ref ofA :: .ref seA :: .ref ecA :: .int (iz em) :: .ref nmA :: .int (iz bst) :: .int (iz bmn) :: .long (lz bsm) :: [])), (mnA, .inl (G.2 0, 30, .inl (av mn))), (dyA, .inl (G.2 0, 9000, .inl (av dy))), (paA, .inl (G.2 0, 30, .inl (av pa))), (ofA, .inl (G.2 0, 30, .inl (av of)))]) [2, 3, 4, 0, 1] (by decide) rfl
            refine zk_bif_ne (tgt := 58) hX_ hB_ dX9_isGood_53 (by decide) (fun c_53 => ?_) (fun c_53 => ?_)
            · skip
              refine lv_iinc (v := (iz (i + 1))) (lv' := [(3, .int (iz (i + 1))), (0, .ref mo), (1, .int (iz s9)), (2, .int (iz d))]) hX_ hB_ dX9_isGood_58 hl (k := 3) rfl (iz_add _ _) (by decide) rfl (fun ls hl => ?_)
              refine lv_goto (tgt := 2) hX_ hB_ dX9_isGood_61 (by decide) ?_
              exact ih_2 (i + 1) (by omega) (by intro o h1 h2 h3 h4; rcases (show o < i ∨ o = i by omega) with q | q; exact hg o h1 q h3 h4; (rw [q]; exact hw_50.mp c_53)) (by omega) _ _ hP hD hS ls (lv_sub hl [1, 2, 3, 0] rfl)
            · skip
              refine zk_iconst hX_ hB_ dX9_isGood_56 ?_
              refine zk_topi (y := (zb false)) rfl ?_
              exact fin_i (wf := (fun bb : Bool => [(mo, .inr (7, .int (iz th) :: .ref bsA :: .int (iz tw) :: .ref tpA :: .int (iz td) :: .int (iz sz) :: .int (iz at_) :: .int (zb iw) :: .ref loA :: .ref hiA :: .long sl :: .long sh :: .ref toA :: .ref mnA :: .ref dyA :: .int (iz sn) :: .ref frA :: .ref t2A :: .ref faA :: .int (iz dn) :: .int (zb iso) :: .ref akA :: .int (iz am) :: .int (iz wr) :: .ref paA :: .ref ofA :: .ref seA :: .ref ecA :: .int (iz em) :: .ref nmA :: .int (iz bst) :: .int (iz bmn) :: .long (lz bsm) :: [])), (mnA, .inl (G.2 0, 30, .inl (av mn))), (dyA, .inl (G.2 0, 9000, .inl (av dy))), (paA, .inl (G.2 0, 30, .inl (av pa))), (ofA, .inl (G.2 0, 30, .inl (av of)))])) false F (zb_nar _) hP hD hK hS (by decide) (by decide) dX9_isGood_57 (by refine ⟨rfl, fun q => absurd q (by decide), fun q => ?_⟩; exact absurd (hw_50.mpr (q i (by omega) (by omega) c_22 c_30)) (by rw [c_53]; decide))
  exact loop_2 _ 0 (by omega) (by intro o h1 h2; omega) (Nat.lt_succ_self _) _ _ hP hD hS ls (lv_sub hl [1, 2, 3, 0] rfl)

theorem mdv_X9_joins : yX9_joins.cls = RX9 ∧ yX9_joins.cls ≠ "java/lang/invoke/MethodHandle" ∧ yX9_joins.cls ≠ "java/lang/invoke/VarHandle" ∧ (parseMethodDescriptor yX9_joins.desc).map (fun d => d.parameters.length) = some 1 := by decide +kernel
theorem hw_X9_canBe_39ede4 : (.fieldLink RX9 163 "StoneDatesModel" "stones" "I" : Cond) ∈ wsX9_canBe := by decide +kernel
theorem hi_X9_canBe_X9 : ∀ w ∈ u_ws RX9 TX9 33, w ∈ wsX9_canBe := by decide +kernel
theorem hw_X9_canBe_627123 : (.fieldLink RX9 27 "StoneDatesModel" "many" "[I" : Cond) ∈ wsX9_canBe := by decide +kernel
theorem hw_X9_canBe_c28315 : (.fieldLink RX9 30 "StoneDatesModel" "days" "[I" : Cond) ∈ wsX9_canBe := by decide +kernel
theorem mdv_X9_isGood : yX9_isGood.cls = RX9 ∧ yX9_isGood.cls ≠ "java/lang/invoke/MethodHandle" ∧ yX9_isGood.cls ≠ "java/lang/invoke/VarHandle" ∧ (parseMethodDescriptor yX9_isGood.desc).map (fun d => d.parameters.length) = some 2 := by decide +kernel
set_option maxHeartbeats 4000000 in
set_option maxRecDepth 100000 in
theorem c_X9_canBe (l : Launch) (G : GG) (mo : Nat) (th : Int) (bsA : Nat) (tw : Int) (tpA : Nat) (td : Int) (sz : Int) (at_ : Int) (iw : Bool) (loA : Nat) (hiA : Nat) (sl : Int64) (sh : Int64) (toA : Nat) (mnA : Nat) (dyA : Nat) (sn : Int) (frA : Nat) (t2A : Nat) (faA : Nat) (dn : Int) (iso : Bool) (akA : Nat) (am : Int) (wr : Int) (paA : Nat) (ofA : Nat) (seA : Nat) (ecA : Nat) (em : Int) (nmA : Nat) (bst : Int) (bmn : Int) (bsm : Int) (mn : Int → Int) (dy : Int → Int) (fr : Int → Int) (t2 : Int → Int) (fa : Int → Int) (ak : Int → Int) (pa : Int → Int) (of : Int → Int) (ss : Nat) (hsn : 0 ≤ sn ∧ sn ≤ 30) (ham : 0 ≤ am ∧ am ≤ 12) (hak : ∀ j : Int, 0 ≤ j → j < am → (0 ≤ ak j ∧ ak j < 12) ∧ (0 ≤ fr (ak j) ∧ fr (ak j) < sn) ∧ (0 ≤ t2 (ak j) ∧ t2 (ak j) < sn) ∧ -500000 ≤ fa (ak j) ∧ fa (ak j) ≤ 500000) (hss : ss < 4096) (hmn : ∀ j : Int, 0 ≤ mn j ∧ mn j ≤ 432000) (hrw : RowsM sn mn dy) : Ci l yX9_canBe wsX9_canBe ({ frames := 2, cells := 0, slots := 0, locals := 50 }) G E0 [.ref mo, .int (iz (ss : Int))] [(mo, .inr (7, .int (iz th) :: .ref bsA :: .int (iz tw) :: .ref tpA :: .int (iz td) :: .int (iz sz) :: .int (iz at_) :: .int (zb iw) :: .ref loA :: .ref hiA :: .long sl :: .long sh :: .ref toA :: .ref mnA :: .ref dyA :: .int (iz sn) :: .ref frA :: .ref t2A :: .ref faA :: .int (iz dn) :: .int (zb iso) :: .ref akA :: .int (iz am) :: .int (iz wr) :: .ref paA :: .ref ofA :: .ref seA :: .ref ecA :: .int (iz em) :: .ref nmA :: .int (iz bst) :: .int (iz bmn) :: .long (lz bsm) :: [])), (mnA, .inl (G.2 0, 30, .inl (av mn))), (dyA, .inl (G.2 0, 9000, .inl (av dy))), (frA, .inl (G.2 0, 12, .inl (av fr))), (t2A, .inl (G.2 0, 12, .inl (av t2))), (faA, .inl (G.2 0, 12, .inl (av fa))), (akA, .inl (G.2 0, 12, .inl (av ak))), (paA, .inl (G.2 0, 30, .inl (av pa))), (ofA, .inl (G.2 0, 30, .inl (av of)))] 0 0 (fun u : Bool × (Int → Int) × (Int → Int) => match u with | (bb, pa2, of2) => [(mo, .inr (7, .int (iz th) :: .ref bsA :: .int (iz tw) :: .ref tpA :: .int (iz td) :: .int (iz sz) :: .int (iz at_) :: .int (zb iw) :: .ref loA :: .ref hiA :: .long sl :: .long sh :: .ref toA :: .ref mnA :: .ref dyA :: .int (iz sn) :: .ref frA :: .ref t2A :: .ref faA :: .int (iz dn) :: .int (zb iso) :: .ref akA :: .int (iz am) :: .int (iz wr) :: .ref paA :: .ref ofA :: .ref seA :: .ref ecA :: .int (iz em) :: .ref nmA :: .int (iz bst) :: .int (iz bmn) :: .long (lz bsm) :: [])), (mnA, .inl (G.2 0, 30, .inl (av mn))), (dyA, .inl (G.2 0, 9000, .inl (av dy))), (frA, .inl (G.2 0, 12, .inl (av fr))), (t2A, .inl (G.2 0, 12, .inl (av t2))), (faA, .inl (G.2 0, 12, .inl (av fa))), (akA, .inl (G.2 0, 12, .inl (av ak))), (paA, .inl (G.2 0, 30, .inl (av pa2))), (ofA, .inl (G.2 0, 30, .inl (av of2)))]) (fun (r : Int32) (u : Bool × (Int → Int) × (Int → Int)) => match u with | (bb, pa2, of2) => (r = (zb bb)) ∧ (bb = true ↔ (∃ c, ChoM sn mn dy c ∧ Sat fr t2 fa ak (fun j_ => wbt ss (am - 1 - j_)) am c))) := by
  refine Ci_intro (cc := cX9_canBe) (maxL := 5) (ret := (some .boolean)) (by decide) rfl (Nat.le_of_ble_eq_true rfl) ?_
  intro p e s m below meth c A F hA hP hD hK hE ls hl
  have hX_ := F.1
  have hB_ := F.2.1
  have hts := F.2.2.2.2.2.1
  have hown := F.2.2.2.2.1
  have hml := F.2.2.2.1
  have hS : va_S A s.heap s.heap [] := va_S.rf
  have hl : lv_has ls 5 [(0, .ref mo), (1, .int (iz (ss : Int)))] := hl
  refine lv_aload_n hX_ hB_ dX9_canBe_0 rfl (lv_at hl 0 rfl) ?_
  refine lv_iload_n hX_ hB_ dX9_canBe_1 rfl (lv_at hl 1 rfl) ?_
  refine back_i (wr := [(mnA, .inl (G.2 0, 30, .inl (av mn))), (dyA, .inl (G.2 0, 9000, .inl (av dy)))]) (run_V (As := [.int (iz (ss : Int))]) (rest := []) (wc := [(mo, .inr (7, .int (iz th) :: .ref bsA :: .int (iz tw) :: .ref tpA :: .int (iz td) :: .int (iz sz) :: .int (iz at_) :: .int (zb iw) :: .ref loA :: .ref hiA :: .long sl :: .long sh :: .ref toA :: .ref mnA :: .ref dyA :: .int (iz sn) :: .ref frA :: .ref t2A :: .ref faA :: .int (iz dn) :: .int (zb iso) :: .ref akA :: .int (iz am) :: .int (iz wr) :: .ref paA :: .ref ofA :: .ref seA :: .ref ecA :: .int (iz em) :: .ref nmA :: .int (iz bst) :: .int (iz bmn) :: .long (lz bsm) :: [])), (frA, .inl (G.2 0, 12, .inl (av fr))), (t2A, .inl (G.2 0, 12, .inl (av t2))), (faA, .inl (G.2 0, 12, .inl (av fa))), (akA, .inl (G.2 0, 12, .inl (av ak))), (paA, .inl (G.2 0, 30, .inl (av pa))), (ofA, .inl (G.2 0, 30, .inl (av of)))]) F (c_X9_joins l G mo th bsA tw tpA td sz at_ iw loA hiA sl sh toA mnA dyA sn frA t2A faA dn iso akA am wr paA ofA seA ecA em nmA bst bmn bsm fr t2 fa ak pa of _ (by omega) (by omega) hak hss _) ext0 gX9_canBe_X9_joins rfl rfl rfl mdv_X9_joins ⟨Nat.le_of_ble_eq_true rfl, Nat.le_of_ble_eq_true rfl⟩ (va_recv hK.1 (hP.sub (ws' := [(mo, .inr (7, .int (iz th) :: .ref bsA :: .int (iz tw) :: .ref tpA :: .int (iz td) :: .int (iz sz) :: .int (iz at_) :: .int (zb iw) :: .ref loA :: .ref hiA :: .long sl :: .long sh :: .ref toA :: .ref mnA :: .ref dyA :: .int (iz sn) :: .ref frA :: .ref t2A :: .ref faA :: .int (iz dn) :: .int (zb iso) :: .ref akA :: .int (iz am) :: .int (iz wr) :: .ref paA :: .ref ofA :: .ref seA :: .ref ecA :: .int (iz em) :: .ref nmA :: .int (iz bst) :: .int (iz bmn) :: .long (lz bsm) :: [])), (frA, .inl (G.2 0, 12, .inl (av fr))), (t2A, .inl (G.2 0, 12, .inl (av t2))), (faA, .inl (G.2 0, 12, .inl (av fa))), (akA, .inl (G.2 0, 12, .inl (av ak))), (paA, .inl (G.2 0, 30, .inl (av pa))), (ofA, .inl (G.2 0, 30, .inl (av of)))]) [0, 3, 4, 5, 6, 7, 8] rfl) (ci := 7) (q0 := 0) rfl rfl) (pre_of ext0 hK hP hD hS hA trivial [0, 3, 4, 5, 6, 7, 8] (by decide) rfl _) rfl hl.1 (Nat.le_of_ble_eq_true rfl) dX9_canBe_2 ⟨by decide, by decide⟩) hP hD hS hA [0, 3, 4, 5, 6, 7, 8] [1, 2] rfl rfl (by decide) (by decide) (fun r__ u__ H locs hw hP hD hS => ?_)
  obtain ⟨bb_2, pa2_2, of2_2⟩ := u__
  try dsimp only at hw hP hD
  obtain ⟨rfl, hw_2⟩ := hw
  have hP := hP.sub (ws' := [(mo, .inr (7, .int (iz th) :: .ref bsA :: .int (iz tw) :: .ref tpA :: .int (iz td) :: .int (iz sz) :: .int (iz at_) :: .int (zb iw) :: .ref loA :: .ref hiA :: .long sl :: .long sh :: .ref toA :: .ref mnA :: .ref dyA :: .int (iz sn) :: .ref frA :: .ref t2A :: .ref faA :: .int (iz dn) :: .int (zb iso) :: .ref akA :: .int (iz am) :: .int (iz wr) :: .ref paA :: .ref ofA :: .ref seA :: .ref ecA :: .int (iz em) :: .ref nmA :: .int (iz bst) :: .int (iz bmn) :: .long (lz bsm) :: [])), (mnA, .inl (G.2 0, 30, .inl (av mn))), (dyA, .inl (G.2 0, 9000, .inl (av dy))), (frA, .inl (G.2 0, 12, .inl (av fr))), (t2A, .inl (G.2 0, 12, .inl (av t2))), (faA, .inl (G.2 0, 12, .inl (av fa))), (akA, .inl (G.2 0, 12, .inl (av ak))), (paA, .inl (G.2 0, 30, .inl (av pa2_2))), (ofA, .inl (G.2 0, 30, .inl (av of2_2)))]) [2, 0, 1, 3, 4, 5, 6, 7, 8] rfl
  have hD := hD.sub (ws' := [(mo, .inr (7, .int (iz th) :: .ref bsA :: .int (iz tw) :: .ref tpA :: .int (iz td) :: .int (iz sz) :: .int (iz at_) :: .int (zb iw) :: .ref loA :: .ref hiA :: .long sl :: .long sh :: .ref toA :: .ref mnA :: .ref dyA :: .int (iz sn) :: .ref frA :: .ref t2A :: .ref faA :: .int (iz dn) :: .int (zb iso) :: .ref akA :: .int (iz am) :: .int (iz wr) :: .ref paA :: .ref ofA :: .ref seA :: .ref ecA :: .int (iz em) :: .ref nmA :: .int (iz bst) :: .int (iz bmn) :: .long (lz bsm) :: [])), (mnA, .inl (G.2 0, 30, .inl (av mn))), (dyA, .inl (G.2 0, 9000, .inl (av dy))), (frA, .inl (G.2 0, 12, .inl (av fr))), (t2A, .inl (G.2 0, 12, .inl (av t2))), (faA, .inl (G.2 0, 12, .inl (av fa))), (akA, .inl (G.2 0, 12, .inl (av ak))), (paA, .inl (G.2 0, 30, .inl (av pa2_2))), (ofA, .inl (G.2 0, 30, .inl (av of2_2)))]) [2, 0, 1, 3, 4, 5, 6, 7, 8] (by decide) rfl
  refine zk_bif_ne (tgt := 10) hX_ hB_ dX9_canBe_5 (by decide) (fun c_5 => ?_) (fun c_5 => ?_)
  · skip
    have hjn := hw_2.1 c_5
    refine zk_iconst hX_ hB_ dX9_canBe_10 ?_
    refine lv_istore_n (lv' := [(2, .int (iz 0)), (0, .ref mo), (1, .int (iz (ss : Int)))]) hX_ hB_ dX9_canBe_11 rfl hl (by decide) rfl (fun ls hl => ?_)
    have loop_12 : ∀ (n_12 : Nat), ∀ (sq : Int), (0 ≤ sq ∧ sq ≤ sn) → (∀ o : Int, 0 ≤ o → o < sq → inN (mn o) = true → ∃ v, Good sn mn dy pa2_2 of2_2 o v) → ((sn - sq).toNat < n_12) → ∀ (H : Heap) (locs : List Loc), va_P G.1 vwCl [(mo, .inr (7, .int (iz th) :: .ref bsA :: .int (iz tw) :: .ref tpA :: .int (iz td) :: .int (iz sz) :: .int (iz at_) :: .int (zb iw) :: .ref loA :: .ref hiA :: .long sl :: .long sh :: .ref toA :: .ref mnA :: .ref dyA :: .int (iz sn) :: .ref frA :: .ref t2A :: .ref faA :: .int (iz dn) :: .int (zb iso) :: .ref akA :: .int (iz am) :: .int (iz wr) :: .ref paA :: .ref ofA :: .ref seA :: .ref ecA :: .int (iz em) :: .ref nmA :: .int (iz bst) :: .int (iz bmn) :: .long (lz bsm) :: [])), (mnA, .inl (G.2 0, 30, .inl (av mn))), (dyA, .inl (G.2 0, 9000, .inl (av dy))), (frA, .inl (G.2 0, 12, .inl (av fr))), (t2A, .inl (G.2 0, 12, .inl (av t2))), (faA, .inl (G.2 0, 12, .inl (av fa))), (akA, .inl (G.2 0, 12, .inl (av ak))), (paA, .inl (G.2 0, 30, .inl (av pa2_2))), (ofA, .inl (G.2 0, 30, .inl (av of2_2)))] H → va_D A [(mo, .inr (7, .int (iz th) :: .ref bsA :: .int (iz tw) :: .ref tpA :: .int (iz td) :: .int (iz sz) :: .int (iz at_) :: .int (zb iw) :: .ref loA :: .ref hiA :: .long sl :: .long sh :: .ref toA :: .ref mnA :: .ref dyA :: .int (iz sn) :: .ref frA :: .ref t2A :: .ref faA :: .int (iz dn) :: .int (zb iso) :: .ref akA :: .int (iz am) :: .int (iz wr) :: .ref paA :: .ref ofA :: .ref seA :: .ref ecA :: .int (iz em) :: .ref nmA :: .int (iz bst) :: .int (iz bmn) :: .long (lz bsm) :: [])), (mnA, .inl (G.2 0, 30, .inl (av mn))), (dyA, .inl (G.2 0, 9000, .inl (av dy))), (frA, .inl (G.2 0, 12, .inl (av fr))), (t2A, .inl (G.2 0, 12, .inl (av t2))), (faA, .inl (G.2 0, 12, .inl (av fa))), (akA, .inl (G.2 0, 12, .inl (av ak))), (paA, .inl (G.2 0, 30, .inl (av pa2_2))), (ofA, .inl (G.2 0, 30, .inl (av of2_2)))] → va_S A s.heap H locs → ∀ ls : Array Slot, lv_has ls 5 [(0, .ref mo), (1, .int (iz (ss : Int))), (2, .int (iz sq))] → W p l e ({ frames := 2, cells := 0, slots := 0, locals := 50 }) s m ([.ref mo, .int (iz (ss : Int))] : List Value).toArray below meth c H locs 0 0 (MQ below (va_Qi (fun (r : Int32) (u : Bool × (Int → Int) × (Int → Int)) => match u with | (bb, pa2, of2) => (r = (zb bb)) ∧ (bb = true ↔ (∃ c, ChoM sn mn dy c ∧ Sat fr t2 fa ak (fun j_ => wbt ss (am - 1 - j_)) am c))) (fun u__ t__ => Pst G A ((fun u : Bool × (Int → Int) × (Int → Int) => match u with | (bb, pa2, of2) => [(mo, .inr (7, .int (iz th) :: .ref bsA :: .int (iz tw) :: .ref tpA :: .int (iz td) :: .int (iz sz) :: .int (iz at_) :: .int (zb iw) :: .ref loA :: .ref hiA :: .long sl :: .long sh :: .ref toA :: .ref mnA :: .ref dyA :: .int (iz sn) :: .ref frA :: .ref t2A :: .ref faA :: .int (iz dn) :: .int (zb iso) :: .ref akA :: .int (iz am) :: .int (iz wr) :: .ref paA :: .ref ofA :: .ref seA :: .ref ecA :: .int (iz em) :: .ref nmA :: .int (iz bst) :: .int (iz bmn) :: .long (lz bsm) :: [])), (mnA, .inl (G.2 0, 30, .inl (av mn))), (dyA, .inl (G.2 0, 9000, .inl (av dy))), (frA, .inl (G.2 0, 12, .inl (av fr))), (t2A, .inl (G.2 0, 12, .inl (av t2))), (faA, .inl (G.2 0, 12, .inl (av fa))), (akA, .inl (G.2 0, 12, .inl (av ak))), (paA, .inl (G.2 0, 30, .inl (av pa2))), (ofA, .inl (G.2 0, 30, .inl (av of2)))]) u__) t__) A) ([.ref mo, .int (iz (ss : Int))] : List Value).toArray s 0 0 A) (F0 m 12 ls []) := by
      intro n_12
      induction n_12 with
      | zero =>
        intro sq hi hg hm H locs hP hD hS ls hl
        exact absurd hm (Nat.not_lt_zero _)
      | succ n_12 ih_12 =>
        intro sq hi hg hm H locs hP hD hS ls hl
        refine lv_iload_n hX_ hB_ dX9_canBe_12 rfl (lv_at hl 2 rfl) ?_
        refine lv_aload_n hX_ hB_ dX9_canBe_13 rfl (lv_at hl 0 rfl) ?_
        refine va_get (D := G.1) (ci := 7) (v := .int (iz sn)) (C := RX9) (T := TX9) (N := 33) hX_ hB_ hts hi_X9_canBe_X9 hown hK.1 hP 0 rfl rfl 15 (by decide) (hts _ hw_X9_canBe_39ede4) (fun _ h9 => h9) rfl dX9_canBe_14 ?_
        refine zk_icmp_ge (tgt := 88) hX_ hB_ (by omega) (by omega) dX9_canBe_17 (by decide) (fun c_17 => ?_) (fun c_17 => ?_)
        · skip
          refine zk_iconst hX_ hB_ dX9_canBe_88 ?_
          refine zk_topi (y := (zb true)) rfl ?_
          exact fin_i (wf := (fun u : Bool × (Int → Int) × (Int → Int) => match u with | (bb, pa2, of2) => [(mo, .inr (7, .int (iz th) :: .ref bsA :: .int (iz tw) :: .ref tpA :: .int (iz td) :: .int (iz sz) :: .int (iz at_) :: .int (zb iw) :: .ref loA :: .ref hiA :: .long sl :: .long sh :: .ref toA :: .ref mnA :: .ref dyA :: .int (iz sn) :: .ref frA :: .ref t2A :: .ref faA :: .int (iz dn) :: .int (zb iso) :: .ref akA :: .int (iz am) :: .int (iz wr) :: .ref paA :: .ref ofA :: .ref seA :: .ref ecA :: .int (iz em) :: .ref nmA :: .int (iz bst) :: .int (iz bmn) :: .long (lz bsm) :: [])), (mnA, .inl (G.2 0, 30, .inl (av mn))), (dyA, .inl (G.2 0, 9000, .inl (av dy))), (frA, .inl (G.2 0, 12, .inl (av fr))), (t2A, .inl (G.2 0, 12, .inl (av t2))), (faA, .inl (G.2 0, 12, .inl (av fa))), (akA, .inl (G.2 0, 12, .inl (av ak))), (paA, .inl (G.2 0, 30, .inl (av pa2))), (ofA, .inl (G.2 0, 30, .inl (av of2)))])) (true, pa2_2, of2_2) F (zb_nar _) hP hD hK hS (by decide) (by decide) dX9_canBe_89 (by exact ⟨rfl, fun _ => good_ex hjn.1 (fun o h1 h2 h3 => hg o h1 (by omega) h3), fun _ => rfl⟩)
        · skip
          refine lv_aload_n hX_ hB_ dX9_canBe_20 rfl (lv_at hl 0 rfl) ?_
          refine lv_iload_n hX_ hB_ dX9_canBe_21 rfl (lv_at hl 2 rfl) ?_
          refine back_i (wr := [(dyA, .inl (G.2 0, 9000, .inl (av dy))), (frA, .inl (G.2 0, 12, .inl (av fr))), (t2A, .inl (G.2 0, 12, .inl (av t2))), (faA, .inl (G.2 0, 12, .inl (av fa))), (akA, .inl (G.2 0, 12, .inl (av ak))), (paA, .inl (G.2 0, 30, .inl (av pa2_2))), (ofA, .inl (G.2 0, 30, .inl (av of2_2)))]) (run_V (As := [.int (iz sq)]) (rest := []) (wc := [(mo, .inr (7, .int (iz th) :: .ref bsA :: .int (iz tw) :: .ref tpA :: .int (iz td) :: .int (iz sz) :: .int (iz at_) :: .int (zb iw) :: .ref loA :: .ref hiA :: .long sl :: .long sh :: .ref toA :: .ref mnA :: .ref dyA :: .int (iz sn) :: .ref frA :: .ref t2A :: .ref faA :: .int (iz dn) :: .int (zb iso) :: .ref akA :: .int (iz am) :: .int (iz wr) :: .ref paA :: .ref ofA :: .ref seA :: .ref ecA :: .int (iz em) :: .ref nmA :: .int (iz bst) :: .int (iz bmn) :: .long (lz bsm) :: [])), (mnA, .inl (G.2 0, 30, .inl (av mn)))]) F (c_X9_inNet l G mo th bsA tw tpA td sz at_ iw loA hiA sl sh toA mnA dyA sn frA t2A faA dn iso akA am wr paA ofA seA ecA em nmA bst bmn bsm mn sq (by omega) hmn _) ext0 gX9_canBe_X9_inNet rfl rfl rfl mdv_X9_inNet ⟨Nat.le_of_ble_eq_true rfl, Nat.le_of_ble_eq_true rfl⟩ (va_recv hK.1 (hP.sub (ws' := [(mo, .inr (7, .int (iz th) :: .ref bsA :: .int (iz tw) :: .ref tpA :: .int (iz td) :: .int (iz sz) :: .int (iz at_) :: .int (zb iw) :: .ref loA :: .ref hiA :: .long sl :: .long sh :: .ref toA :: .ref mnA :: .ref dyA :: .int (iz sn) :: .ref frA :: .ref t2A :: .ref faA :: .int (iz dn) :: .int (zb iso) :: .ref akA :: .int (iz am) :: .int (iz wr) :: .ref paA :: .ref ofA :: .ref seA :: .ref ecA :: .int (iz em) :: .ref nmA :: .int (iz bst) :: .int (iz bmn) :: .long (lz bsm) :: [])), (mnA, .inl (G.2 0, 30, .inl (av mn)))]) [0, 1] rfl) (ci := 7) (q0 := 0) rfl rfl) (pre_of ext0 hK hP hD hS hA trivial [0, 1] (by decide) rfl _) rfl hl.1 (Nat.le_of_ble_eq_true rfl) dX9_canBe_22 ⟨by decide, by decide⟩) hP hD hS hA [0, 1] [2, 3, 4, 5, 6, 7, 8] rfl rfl (by decide) (by decide) (fun r__ u__ H locs hw hP hD hS => ?_)
          subst hw
          have hP := hP.sub (ws' := [(mo, .inr (7, .int (iz th) :: .ref bsA :: .int (iz tw) :: .ref tpA :: .int (iz td) :: .int (iz sz) :: .int (iz at_) :: .int (zb iw) :: .ref loA :: .ref hiA :: .long sl :: .long sh :: .ref toA :: .ref mnA :: .ref dyA :: .int (iz sn) :: .ref frA :: .ref t2A :: .ref faA :: .int (iz dn) :: .int (zb iso) :: .ref akA :: .int (iz am) :: .int (iz wr) :: .ref paA :: .ref ofA :: .ref seA :: .ref ecA :: .int (iz em) :: .ref nmA :: .int (iz bst) :: .int (iz bmn) :: .long (lz bsm) :: [])), (mnA, .inl (G.2 0, 30, .inl (av mn))), (dyA, .inl (G.2 0, 9000, .inl (av dy))), (frA, .inl (G.2 0, 12, .inl (av fr))), (t2A, .inl (G.2 0, 12, .inl (av t2))), (faA, .inl (G.2 0, 12, .inl (av fa))), (akA, .inl (G.2 0, 12, .inl (av ak))), (paA, .inl (G.2 0, 30, .inl (av pa2_2))), (ofA, .inl (G.2 0, 30, .inl (av of2_2)))]) [7, 8, 0, 1, 2, 3, 4, 5, 6] rfl
          have hD := hD.sub (ws' := [(mo, .inr (7, .int (iz th) :: .ref bsA :: .int (iz tw) :: .ref tpA :: .int (iz td) :: .int (iz sz) :: .int (iz at_) :: .int (zb iw) :: .ref loA :: .ref hiA :: .long sl :: .long sh :: .ref toA :: .ref mnA :: .ref dyA :: .int (iz sn) :: .ref frA :: .ref t2A :: .ref faA :: .int (iz dn) :: .int (zb iso) :: .ref akA :: .int (iz am) :: .int (iz wr) :: .ref paA :: .ref ofA :: .ref seA :: .ref ecA :: .int (iz em) :: .ref nmA :: .int (iz bst) :: .int (iz bmn) :: .long (lz bsm) :: [])), (mnA, .inl (G.2 0, 30, .inl (av mn))), (dyA, .inl (G.2 0, 9000, .inl (av dy))), (frA, .inl (G.2 0, 12, .inl (av fr))), (t2A, .inl (G.2 0, 12, .inl (av t2))), (faA, .inl (G.2 0, 12, .inl (av fa))), (akA, .inl (G.2 0, 12, .inl (av ak))), (paA, .inl (G.2 0, 30, .inl (av pa2_2))), (ofA, .inl (G.2 0, 30, .inl (av of2_2)))]) [7, 8, 0, 1, 2, 3, 4, 5, 6] (by decide) rfl
          refine zk_bif_ne (tgt := 31) hX_ hB_ dX9_canBe_25 (by decide) (fun c_25 => ?_) (fun c_25 => ?_)
          · skip
            have hin := inN_rng c_25
            have hri := hrw sq (by omega) (by omega) c_25
            refine zk_iconst hX_ hB_ dX9_canBe_31 ?_
            refine zk_topi (y := (zb false)) rfl ?_
            refine lv_istore_n (lv' := [(3, .int (zb false)), (0, .ref mo), (1, .int (iz (ss : Int))), (2, .int (iz sq))]) hX_ hB_ dX9_canBe_32 rfl hl (by decide) rfl (fun ls hl => ?_)
            refine zk_iconst hX_ hB_ dX9_canBe_33 ?_
            refine lv_istore (lv' := [(4, .int (iz 0)), (3, .int (zb false)), (0, .ref mo), (1, .int (iz (ss : Int))), (2, .int (iz sq))]) hX_ hB_ dX9_canBe_34 hl (by decide) rfl (fun ls hl => ?_)
            have loop_36 : ∀ (n_36 : Nat), ∀ (k : Int) (ib : Bool), (0 ≤ k ∧ k ≤ mn sq) → (ib = true → ∃ v, Good sn mn dy pa2_2 of2_2 sq v) → (ib = false → ∀ j : Int, 0 ≤ j → j < k → ¬ Good sn mn dy pa2_2 of2_2 sq (dy (300 * sq + j))) → ((mn sq - k).toNat < n_36) → ∀ (H : Heap) (locs : List Loc), va_P G.1 vwCl [(mo, .inr (7, .int (iz th) :: .ref bsA :: .int (iz tw) :: .ref tpA :: .int (iz td) :: .int (iz sz) :: .int (iz at_) :: .int (zb iw) :: .ref loA :: .ref hiA :: .long sl :: .long sh :: .ref toA :: .ref mnA :: .ref dyA :: .int (iz sn) :: .ref frA :: .ref t2A :: .ref faA :: .int (iz dn) :: .int (zb iso) :: .ref akA :: .int (iz am) :: .int (iz wr) :: .ref paA :: .ref ofA :: .ref seA :: .ref ecA :: .int (iz em) :: .ref nmA :: .int (iz bst) :: .int (iz bmn) :: .long (lz bsm) :: [])), (mnA, .inl (G.2 0, 30, .inl (av mn))), (dyA, .inl (G.2 0, 9000, .inl (av dy))), (frA, .inl (G.2 0, 12, .inl (av fr))), (t2A, .inl (G.2 0, 12, .inl (av t2))), (faA, .inl (G.2 0, 12, .inl (av fa))), (akA, .inl (G.2 0, 12, .inl (av ak))), (paA, .inl (G.2 0, 30, .inl (av pa2_2))), (ofA, .inl (G.2 0, 30, .inl (av of2_2)))] H → va_D A [(mo, .inr (7, .int (iz th) :: .ref bsA :: .int (iz tw) :: .ref tpA :: .int (iz td) :: .int (iz sz) :: .int (iz at_) :: .int (zb iw) :: .ref loA :: .ref hiA :: .long sl :: .long sh :: .ref toA :: .ref mnA :: .ref dyA :: .int (iz sn) :: .ref frA :: .ref t2A :: .ref faA :: .int (iz dn) :: .int (zb iso) :: .ref akA :: .int (iz am) :: .int (iz wr) :: .ref paA :: .ref ofA :: .ref seA :: .ref ecA :: .int (iz em) :: .ref nmA :: .int (iz bst) :: .int (iz bmn) :: .long (lz bsm) :: [])), (mnA, .inl (G.2 0, 30, .inl (av mn))), (dyA, .inl (G.2 0, 9000, .inl (av dy))), (frA, .inl (G.2 0, 12, .inl (av fr))), (t2A, .inl (G.2 0, 12, .inl (av t2))), (faA, .inl (G.2 0, 12, .inl (av fa))), (akA, .inl (G.2 0, 12, .inl (av ak))), (paA, .inl (G.2 0, 30, .inl (av pa2_2))), (ofA, .inl (G.2 0, 30, .inl (av of2_2)))] → va_S A s.heap H locs → ∀ ls : Array Slot, lv_has ls 5 [(0, .ref mo), (1, .int (iz (ss : Int))), (2, .int (iz sq)), (3, .int (zb ib)), (4, .int (iz k))] → W p l e ({ frames := 2, cells := 0, slots := 0, locals := 50 }) s m ([.ref mo, .int (iz (ss : Int))] : List Value).toArray below meth c H locs 0 0 (MQ below (va_Qi (fun (r : Int32) (u : Bool × (Int → Int) × (Int → Int)) => match u with | (bb, pa2, of2) => (r = (zb bb)) ∧ (bb = true ↔ (∃ c, ChoM sn mn dy c ∧ Sat fr t2 fa ak (fun j_ => wbt ss (am - 1 - j_)) am c))) (fun u__ t__ => Pst G A ((fun u : Bool × (Int → Int) × (Int → Int) => match u with | (bb, pa2, of2) => [(mo, .inr (7, .int (iz th) :: .ref bsA :: .int (iz tw) :: .ref tpA :: .int (iz td) :: .int (iz sz) :: .int (iz at_) :: .int (zb iw) :: .ref loA :: .ref hiA :: .long sl :: .long sh :: .ref toA :: .ref mnA :: .ref dyA :: .int (iz sn) :: .ref frA :: .ref t2A :: .ref faA :: .int (iz dn) :: .int (zb iso) :: .ref akA :: .int (iz am) :: .int (iz wr) :: .ref paA :: .ref ofA :: .ref seA :: .ref ecA :: .int (iz em) :: .ref nmA :: .int (iz bst) :: .int (iz bmn) :: .long (lz bsm) :: [])), (mnA, .inl (G.2 0, 30, .inl (av mn))), (dyA, .inl (G.2 0, 9000, .inl (av dy))), (frA, .inl (G.2 0, 12, .inl (av fr))), (t2A, .inl (G.2 0, 12, .inl (av t2))), (faA, .inl (G.2 0, 12, .inl (av fa))), (akA, .inl (G.2 0, 12, .inl (av ak))), (paA, .inl (G.2 0, 30, .inl (av pa2))), (ofA, .inl (G.2 0, 30, .inl (av of2)))]) u__) t__) A) ([.ref mo, .int (iz (ss : Int))] : List Value).toArray s 0 0 A) (F0 m 36 ls []) := by
              intro n_36
              induction n_36 with
              | zero =>
                intro k ib hk hyes hno hm H locs hP hD hS ls hl
                exact absurd hm (Nat.not_lt_zero _)
              | succ n_36 ih_36 =>
                intro k ib hk hyes hno hm H locs hP hD hS ls hl
                refine lv_iload hX_ hB_ dX9_canBe_36 (lv_at hl 4 rfl) ?_
                refine lv_aload_n hX_ hB_ dX9_canBe_38 rfl (lv_at hl 0 rfl) ?_
                refine va_get (D := G.1) (ci := 7) (v := .ref mnA) (C := RX9) (T := TX9) (N := 33) hX_ hB_ hts hi_X9_canBe_X9 hown hK.1 hP 0 rfl rfl 13 (by decide) (hts _ hw_X9_canBe_627123) (fun _ h9 => h9) rfl dX9_canBe_39 ?_
                refine lv_iload_n hX_ hB_ dX9_canBe_42 rfl (lv_at hl 2 rfl) ?_
                refine zk_iald hX_ hB_ hK.1 hP 1 0 rfl rfl (by omega) (by decide) dX9_canBe_43 ?_
                refine zk_icmp_ge (tgt := 76) hX_ hB_ (by omega) (by omega) dX9_canBe_44 (by decide) (fun c_44 => ?_) (fun c_44 => ?_)
                · skip
                  refine lv_iload_n hX_ hB_ dX9_canBe_76 rfl (lv_at hl 3 rfl) ?_
                  refine zk_bif_ne (tgt := 82) hX_ hB_ dX9_canBe_77 (by decide) (fun c_77 => ?_) (fun c_77 => ?_)
                  · skip
                    refine lv_iinc (v := (iz (sq + 1))) (lv' := [(2, .int (iz (sq + 1))), (0, .ref mo), (1, .int (iz (ss : Int))), (3, .int (zb ib)), (4, .int (iz k))]) hX_ hB_ dX9_canBe_82 hl (k := 2) rfl (iz_add _ _) (by decide) rfl (fun ls hl => ?_)
                    refine lv_goto (tgt := 12) hX_ hB_ dX9_canBe_85 (by decide) ?_
                    exact ih_12 (sq + 1) (by omega) (by intro o h1 h2 h3; rcases (show o < sq ∨ o = sq by omega) with q | q; exact hg o h1 q h3; (rw [q]; exact hyes c_77)) (by omega) _ _ hP hD hS ls (lv_sub hl [1, 2, 0] rfl)
                  · skip
                    refine zk_iconst hX_ hB_ dX9_canBe_80 ?_
                    refine zk_topi (y := (zb false)) rfl ?_
                    exact fin_i (wf := (fun u : Bool × (Int → Int) × (Int → Int) => match u with | (bb, pa2, of2) => [(mo, .inr (7, .int (iz th) :: .ref bsA :: .int (iz tw) :: .ref tpA :: .int (iz td) :: .int (iz sz) :: .int (iz at_) :: .int (zb iw) :: .ref loA :: .ref hiA :: .long sl :: .long sh :: .ref toA :: .ref mnA :: .ref dyA :: .int (iz sn) :: .ref frA :: .ref t2A :: .ref faA :: .int (iz dn) :: .int (zb iso) :: .ref akA :: .int (iz am) :: .int (iz wr) :: .ref paA :: .ref ofA :: .ref seA :: .ref ecA :: .int (iz em) :: .ref nmA :: .int (iz bst) :: .int (iz bmn) :: .long (lz bsm) :: [])), (mnA, .inl (G.2 0, 30, .inl (av mn))), (dyA, .inl (G.2 0, 9000, .inl (av dy))), (frA, .inl (G.2 0, 12, .inl (av fr))), (t2A, .inl (G.2 0, 12, .inl (av t2))), (faA, .inl (G.2 0, 12, .inl (av fa))), (akA, .inl (G.2 0, 12, .inl (av ak))), (paA, .inl (G.2 0, 30, .inl (av pa2))), (ofA, .inl (G.2 0, 30, .inl (av of2)))])) (false, pa2_2, of2_2) F (zb_nar _) hP hD hK hS (by decide) (by decide) dX9_canBe_81 (by refine ⟨rfl, fun q => absurd q (by decide), fun ⟨c, c1, c2⟩ => ?_⟩; exfalso; obtain ⟨j, j0, j1, j2⟩ := c1 sq (by omega) (by omega) c_25; have z := good_of hjn.1 c1 c2 (s := sq) (by omega) (by omega); rw [← j2] at z; rcases (show j < k ∨ k ≤ j by omega) with q | q; exact hno c_77 j j0 q z; first | omega | exact hno c_77 j j0 (by omega) z | exact absurd (c_48.symm.trans c_77) (by decide))
                · skip
                  refine lv_iload_n hX_ hB_ dX9_canBe_47 rfl (lv_at hl 3 rfl) ?_
                  refine zk_bif_ne (tgt := 76) hX_ hB_ dX9_canBe_48 (by decide) (fun c_48 => ?_) (fun c_48 => ?_)
                  · skip
                    refine lv_iload_n hX_ hB_ dX9_canBe_76 rfl (lv_at hl 3 rfl) ?_
                    refine zk_bif_ne (tgt := 82) hX_ hB_ dX9_canBe_77 (by decide) (fun c_77 => ?_) (fun c_77 => ?_)
                    · skip
                      refine lv_iinc (v := (iz (sq + 1))) (lv' := [(2, .int (iz (sq + 1))), (0, .ref mo), (1, .int (iz (ss : Int))), (3, .int (zb ib)), (4, .int (iz k))]) hX_ hB_ dX9_canBe_82 hl (k := 2) rfl (iz_add _ _) (by decide) rfl (fun ls hl => ?_)
                      refine lv_goto (tgt := 12) hX_ hB_ dX9_canBe_85 (by decide) ?_
                      exact ih_12 (sq + 1) (by omega) (by intro o h1 h2 h3; rcases (show o < sq ∨ o = sq by omega) with q | q; exact hg o h1 q h3; (rw [q]; exact hyes c_77)) (by omega) _ _ hP hD hS ls (lv_sub hl [1, 2, 0] rfl)
                    · skip
                      refine zk_iconst hX_ hB_ dX9_canBe_80 ?_
                      refine zk_topi (y := (zb false)) rfl ?_
                      exact fin_i (wf := (fun u : Bool × (Int → Int) × (Int → Int) => match u with | (bb, pa2, of2) => [(mo, .inr (7, .int (iz th) :: .ref bsA :: .int (iz tw) :: .ref tpA :: .int (iz td) :: .int (iz sz) :: .int (iz at_) :: .int (zb iw) :: .ref loA :: .ref hiA :: .long sl :: .long sh :: .ref toA :: .ref mnA :: .ref dyA :: .int (iz sn) :: .ref frA :: .ref t2A :: .ref faA :: .int (iz dn) :: .int (zb iso) :: .ref akA :: .int (iz am) :: .int (iz wr) :: .ref paA :: .ref ofA :: .ref seA :: .ref ecA :: .int (iz em) :: .ref nmA :: .int (iz bst) :: .int (iz bmn) :: .long (lz bsm) :: [])), (mnA, .inl (G.2 0, 30, .inl (av mn))), (dyA, .inl (G.2 0, 9000, .inl (av dy))), (frA, .inl (G.2 0, 12, .inl (av fr))), (t2A, .inl (G.2 0, 12, .inl (av t2))), (faA, .inl (G.2 0, 12, .inl (av fa))), (akA, .inl (G.2 0, 12, .inl (av ak))), (paA, .inl (G.2 0, 30, .inl (av pa2))), (ofA, .inl (G.2 0, 30, .inl (av of2)))])) (false, pa2_2, of2_2) F (zb_nar _) hP hD hK hS (by decide) (by decide) dX9_canBe_81 (by refine ⟨rfl, fun q => absurd q (by decide), fun ⟨c, c1, c2⟩ => ?_⟩; exfalso; obtain ⟨j, j0, j1, j2⟩ := c1 sq (by omega) (by omega) c_25; have z := good_of hjn.1 c1 c2 (s := sq) (by omega) (by omega); rw [← j2] at z; rcases (show j < k ∨ k ≤ j by omega) with q | q; exact hno c_77 j j0 q z; first | omega | exact hno c_77 j j0 (by omega) z | exact absurd (c_48.symm.trans c_77) (by decide))
                  · skip
                    have hrk := hri.2 k (by omega) (by omega)
                    refine lv_aload_n hX_ hB_ dX9_canBe_51 rfl (lv_at hl 0 rfl) ?_
                    refine lv_iload_n hX_ hB_ dX9_canBe_52 rfl (lv_at hl 2 rfl) ?_
                    refine lv_aload_n hX_ hB_ dX9_canBe_53 rfl (lv_at hl 0 rfl) ?_
                    refine va_get (D := G.1) (ci := 7) (v := .ref dyA) (C := RX9) (T := TX9) (N := 33) hX_ hB_ hts hi_X9_canBe_X9 hown hK.1 hP 0 rfl rfl 14 (by decide) (hts _ hw_X9_canBe_c28315) (fun _ h9 => h9) rfl dX9_canBe_54 ?_
                    refine zk_sipush hX_ hB_ (by decide) dX9_canBe_57 ?_
                    refine lv_iload_n hX_ hB_ dX9_canBe_60 rfl (lv_at hl 2 rfl) ?_
                    refine zk_imul hX_ hB_ dX9_canBe_61 ?_
                    refine lv_iload hX_ hB_ dX9_canBe_62 (lv_at hl 4 rfl) ?_
                    refine zk_iadd hX_ hB_ dX9_canBe_64 ?_
                    refine zk_iald hX_ hB_ hK.1 hP 2 0 rfl rfl (by omega) (by decide) dX9_canBe_65 ?_
                    refine back_i (wr := [(frA, .inl (G.2 0, 12, .inl (av fr))), (t2A, .inl (G.2 0, 12, .inl (av t2))), (faA, .inl (G.2 0, 12, .inl (av fa))), (akA, .inl (G.2 0, 12, .inl (av ak)))]) (run_V (As := [.int (iz sq), .int (iz (dy ((300 * sq) + k)))]) (rest := []) (wc := [(mo, .inr (7, .int (iz th) :: .ref bsA :: .int (iz tw) :: .ref tpA :: .int (iz td) :: .int (iz sz) :: .int (iz at_) :: .int (zb iw) :: .ref loA :: .ref hiA :: .long sl :: .long sh :: .ref toA :: .ref mnA :: .ref dyA :: .int (iz sn) :: .ref frA :: .ref t2A :: .ref faA :: .int (iz dn) :: .int (zb iso) :: .ref akA :: .int (iz am) :: .int (iz wr) :: .ref paA :: .ref ofA :: .ref seA :: .ref ecA :: .int (iz em) :: .ref nmA :: .int (iz bst) :: .int (iz bmn) :: .long (lz bsm) :: [])), (mnA, .inl (G.2 0, 30, .inl (av mn))), (dyA, .inl (G.2 0, 9000, .inl (av dy))), (paA, .inl (G.2 0, 30, .inl (av pa2_2))), (ofA, .inl (G.2 0, 30, .inl (av of2_2)))]) F (c_X9_isGood l G mo th bsA tw tpA td sz at_ iw loA hiA sl sh toA mnA dyA sn frA t2A faA dn iso akA am wr paA ofA seA ecA em nmA bst bmn bsm mn dy pa2_2 of2_2 sq (dy ((300 * sq) + k)) (by omega) hmn hrw hjn.2 (by omega) (by omega) _) ext0 gX9_canBe_X9_isGood rfl rfl rfl mdv_X9_isGood ⟨Nat.le_of_ble_eq_true rfl, Nat.le_of_ble_eq_true rfl⟩ (va_recv hK.1 (hP.sub (ws' := [(mo, .inr (7, .int (iz th) :: .ref bsA :: .int (iz tw) :: .ref tpA :: .int (iz td) :: .int (iz sz) :: .int (iz at_) :: .int (zb iw) :: .ref loA :: .ref hiA :: .long sl :: .long sh :: .ref toA :: .ref mnA :: .ref dyA :: .int (iz sn) :: .ref frA :: .ref t2A :: .ref faA :: .int (iz dn) :: .int (zb iso) :: .ref akA :: .int (iz am) :: .int (iz wr) :: .ref paA :: .ref ofA :: .ref seA :: .ref ecA :: .int (iz em) :: .ref nmA :: .int (iz bst) :: .int (iz bmn) :: .long (lz bsm) :: [])), (mnA, .inl (G.2 0, 30, .inl (av mn))), (dyA, .inl (G.2 0, 9000, .inl (av dy))), (paA, .inl (G.2 0, 30, .inl (av pa2_2))), (ofA, .inl (G.2 0, 30, .inl (av of2_2)))]) [0, 1, 2, 7, 8] rfl) (ci := 7) (q0 := 0) rfl rfl) (pre_of ext0 hK hP hD hS hA trivial [0, 1, 2, 7, 8] (by decide) rfl _) rfl hl.1 (Nat.le_of_ble_eq_true rfl) dX9_canBe_66 ⟨by decide, by decide⟩) hP hD hS hA [0, 1, 2, 7, 8] [3, 4, 5, 6] rfl rfl (by decide) (by decide) (fun r__ u__ H locs hw hP hD hS => ?_)
                    obtain ⟨bb_66, rfl⟩ : ∃ z, z = u__ := ⟨_, rfl⟩
                    try dsimp only at hw hP hD
                    obtain ⟨rfl, hw_66⟩ := hw
                    have hP := hP.sub (ws' := [(mo, .inr (7, .int (iz th) :: .ref bsA :: .int (iz tw) :: .ref tpA :: .int (iz td) :: .int (iz sz) :: .int (iz at_) :: .int (zb iw) :: .ref loA :: .ref hiA :: .long sl :: .long sh :: .ref toA :: .ref mnA :: .ref dyA :: .int (iz sn) :: .ref frA :: .ref t2A :: .ref faA :: .int (iz dn) :: .int (zb iso) :: .ref akA :: .int (iz am) :: .int (iz wr) :: .ref paA :: .ref ofA :: .ref seA :: .ref ecA :: .int (iz em) :: .ref nmA :: .int (iz bst) :: .int (iz bmn) :: .long (lz bsm) :: [])), (mnA, .inl (G.2 0, 30, .inl (av mn))), (dyA, .inl (G.2 0, 9000, .inl (av dy))), (frA, .inl (G.2 0, 12, .inl (av fr))), (t2A, .inl (G.2 0, 12, .inl (av t2))), (faA, .inl (G.2 0, 12, .inl (av fa))), (akA, .inl (G.2 0, 12, .inl (av ak))), (paA, .inl (G.2 0, 30, .inl (av pa2_2))), (ofA, .inl (G.2 0, 30, .inl (av of2_2)))]) [4, 5, 6, 0, 1, 2, 3, 7, 8] rfl
                    have hD := hD.sub (ws' := [(mo, .inr (7, .int (iz th) :: .ref bsA :: .int (iz tw) :: .ref tpA :: .int (iz td) :: .int (iz sz) :: .int (iz at_) :: .int (zb iw) :: .ref loA :: .ref hiA :: .long sl :: .long sh :: .ref toA :: .ref mnA :: .ref dyA :: .int (iz sn) :: .ref frA :: .ref t2A :: .ref faA :: .int (iz dn) :: .int (zb iso) :: .ref akA :: .int (iz am) :: .int (iz wr) :: .ref paA :: .ref ofA :: .ref seA :: .ref ecA :: .int (iz em) :: .ref nmA :: .int (iz bst) :: .int (iz bmn) :: .long (lz bsm) :: [])), (mnA, .inl (G.2 0, 30, .inl (av mn))), (dyA, .inl (G.2 0, 9000, .inl (av dy))), (frA, .inl (G.2 0, 12, .inl (av fr))), (t2A, .inl (G.2 0, 12, .inl (av t2))), (faA, .inl (G.2 0, 12, .inl (av fa))), (akA, .inl (G.2 0, 12, .inl (av ak))), (paA, .inl (G.2 0, 30, .inl (av pa2_2))), (ofA, .inl (G.2 0, 30, .inl (av of2_2)))]) [4, 5, 6, 0, 1, 2, 3, 7, 8] (by decide) rfl
                    refine lv_istore_n (lv' := [(3, .int (zb bb_66)), (0, .ref mo), (1, .int (iz (ss : Int))), (2, .int (iz sq)), (4, .int (iz k))]) hX_ hB_ dX9_canBe_69 rfl hl (by decide) rfl (fun ls hl => ?_)
                    refine lv_iinc (v := (iz (k + 1))) (lv' := [(4, .int (iz (k + 1))), (3, .int (zb bb_66)), (0, .ref mo), (1, .int (iz (ss : Int))), (2, .int (iz sq))]) hX_ hB_ dX9_canBe_70 hl (k := 4) rfl (iz_add _ _) (by decide) rfl (fun ls hl => ?_)
                    refine lv_goto (tgt := 36) hX_ hB_ dX9_canBe_73 (by decide) ?_
                    exact ih_36 (k + 1) bb_66 (by omega) (by intro q; exact ⟨_, hw_66.mp q⟩) (by intro q j h1 h2; rcases (show j < k ∨ j = k by omega) with z | z; exact hno c_48 j h1 z; (rw [z]; intro z2; exact absurd (hw_66.mpr z2) (by rw [q]; decide))) (by omega) _ _ hP hD hS ls (lv_sub hl [2, 3, 4, 1, 0] rfl)
            exact loop_36 _ 0 false (by omega) (by intro q; cases q) (by intro _ j h1 h2; omega) (Nat.lt_succ_self _) _ _ hP hD hS ls (lv_sub hl [2, 3, 4, 1, 0] rfl)
          · skip
            refine lv_goto (tgt := 82) hX_ hB_ dX9_canBe_28 (by decide) ?_
            refine lv_iinc (v := (iz (sq + 1))) (lv' := [(2, .int (iz (sq + 1))), (0, .ref mo), (1, .int (iz (ss : Int)))]) hX_ hB_ dX9_canBe_82 hl (k := 2) rfl (iz_add _ _) (by decide) rfl (fun ls hl => ?_)
            refine lv_goto (tgt := 12) hX_ hB_ dX9_canBe_85 (by decide) ?_
            exact ih_12 (sq + 1) (by omega) (by intro o h1 h2 h3; rcases (show o < sq ∨ o = sq by omega) with q | q; exact hg o h1 q h3; (rw [q, c_25] at h3; cases h3)) (by omega) _ _ hP hD hS ls (lv_sub hl [1, 2, 0] rfl)
    exact loop_12 _ 0 (by omega) (by intro o h1 h2; omega) (Nat.lt_succ_self _) _ _ hP hD hS ls (lv_sub hl [1, 2, 0] rfl)
  · skip
    refine zk_iconst hX_ hB_ dX9_canBe_8 ?_
    refine zk_topi (y := (zb false)) rfl ?_
    exact fin_i (wf := (fun u : Bool × (Int → Int) × (Int → Int) => match u with | (bb, pa2, of2) => [(mo, .inr (7, .int (iz th) :: .ref bsA :: .int (iz tw) :: .ref tpA :: .int (iz td) :: .int (iz sz) :: .int (iz at_) :: .int (zb iw) :: .ref loA :: .ref hiA :: .long sl :: .long sh :: .ref toA :: .ref mnA :: .ref dyA :: .int (iz sn) :: .ref frA :: .ref t2A :: .ref faA :: .int (iz dn) :: .int (zb iso) :: .ref akA :: .int (iz am) :: .int (iz wr) :: .ref paA :: .ref ofA :: .ref seA :: .ref ecA :: .int (iz em) :: .ref nmA :: .int (iz bst) :: .int (iz bmn) :: .long (lz bsm) :: [])), (mnA, .inl (G.2 0, 30, .inl (av mn))), (dyA, .inl (G.2 0, 9000, .inl (av dy))), (frA, .inl (G.2 0, 12, .inl (av fr))), (t2A, .inl (G.2 0, 12, .inl (av t2))), (faA, .inl (G.2 0, 12, .inl (av fa))), (akA, .inl (G.2 0, 12, .inl (av ak))), (paA, .inl (G.2 0, 30, .inl (av pa2))), (ofA, .inl (G.2 0, 30, .inl (av of2)))])) (false, pa2_2, of2_2) F (zb_nar _) hP hD hK hS (by decide) (by decide) dX9_canBe_9 (by exact ⟨rfl, fun q => absurd q (by decide), fun ⟨c, _, c2⟩ => absurd c2 (hw_2.2 c_5 c)⟩)
