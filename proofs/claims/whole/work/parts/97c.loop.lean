
set_option maxHeartbeats 4000000 in
set_option maxRecDepth 100000 in
theorem law_loop {p : Program} {e : Env} {s : State} {m : MethodId} {below : List Frame} {meth : Method} {c : Code} (l : Launch) (hl0 : l.stackTraces = false) (G : GG) {b L : Nat} {xs : Nat → Int32} (ga : Nat → Nat) (kfo : Option Nat) (kkt : Nat) (kkd : Nat → Nat) (ksa : Nat → Nat) (kva : Nat → Nat) (ma : Nat → Nat) (mv : Nat → Nat) (F : Fx p s m meth c ⟨RL, meth.name, ""⟩ wsL_law cL_law 7 ret #[Value.ref b]) (hbl : b < s.heap.size) (hXs : va_X b L xs s s.heap) (hK : KK G s) (hCE : (CE ga kfo kkt kkd ksa kva ma mv) (fun q : Nat => s.heap.size ≤ q) s s.heap) (hL : L ≤ 3072) (h mo ou : Nat) : ∀ (n : Nat) (i : Int) (C9 S9 : Nat), 0 ≤ i → i ≤ L → (L : Int) < i + 6 * n → C9 + 8 * n ≤ 601024 → S9 + 500 * n ≤ 7293034 → ∀ (H : Heap) (locs : List Loc) (ls : Array Slot), LSt G (fun q : Nat => s.heap.size ≤ q) h mo ou H → va_S (fun q : Nat => s.heap.size ≤ q) s.heap H locs → lv_has ls 7 [(0, .ref b), (1, .ref h), (2, .ref mo), (3, .ref ou), (4, .int (iz i))] → W p l e room_1 s m #[Value.ref b] below meth c H locs C9 S9 (lw_Z below #[Value.ref b] s) (F0 m 23 ls []) := by
  have hA : ∀ q, s.heap.size ≤ q → (fun q : Nat => s.heap.size ≤ q) q := fun _ z => z
  have hbA : ¬ (fun q : Nat => s.heap.size ≤ q) b := Nat.not_le.mpr hbl
  have hX_ := F.1
  have hB_ := F.2.1
  intro n
  induction n with
  | zero => intro i C9 S9 h1 h2 h3; exact absurd h3 (by omega)
  | succ n ih =>
    intro i C9 S9 h1 h2 h3 hC hS9 H locs ls hLS hS hl
    refine lv_iload hX_ hB_ dL_law_23 (lv_at hl 4 rfl) ?_
    refine lv_aload_n hX_ hB_ dL_law_25 rfl (lv_at hl 0 rfl) ?_
    refine zk_slen hX_ hB_ hXs hbl hbA hS dL_law_26 ?_
    refine zk_bipush hX_ hB_ (by decide) dL_law_27 ?_
    refine zk_isub hX_ hB_ dL_law_29 ?_
    refine zk_icmp_gt (tgt := 1192) hX_ hB_ (by omega) (by omega) dL_law_30 (by decide) (fun c_30 => ?_) (fun c_30 => ?_)
    · refine lv_iconst (v := 1) hX_ hB_ dL_law_1192 (by decide) ?_
      refine va_forget (fun q hq => hS.2.2 q hq) ?_
      refine W.widen (k := 601024) (n := 7293034) (by omega) (by omega) ?_
      exact lw_ret hX_ hB_ F.2.2.1 F.2.2.2.2.2.2.1 dL_law_1193
    · have step : ∀ (H : Heap) (locs : List Loc) (ls : Array Slot), LSt G (fun q : Nat => s.heap.size ≤ q) h mo ou H → va_S (fun q : Nat => s.heap.size ≤ q) s.heap H locs → lv_has ls 7 [(0, .ref b), (1, .ref h), (2, .ref mo), (3, .ref ou), (4, .int (iz i))] → W p l e room_1 s m #[Value.ref b] below meth c H locs (C9 + 8) (S9 + 500) (lw_Z below #[Value.ref b] s) (F0 m 1186 ls []) := by
        intro H locs ls hLS hS hl
        refine lv_iinc (v := iz (i + 6)) (lv' := [(4, .int (iz (i + 6))), (0, .ref b), (1, .ref h), (2, .ref mo), (3, .ref ou)]) hX_ hB_ dL_law_1186 hl (k := 4) rfl (iz_add _ _) (by decide) rfl (fun ls hl => ?_)
        refine lv_goto (tgt := 23) hX_ hB_ dL_law_1189 (by decide) ?_
        exact ih (i + 6) (C9 + 8) (S9 + 500) (by omega) (by omega) (by omega) (by omega) (by omega) H locs ls hLS hS (lv_sub hl [1, 2, 3, 4, 0] rfl)
      refine lv_aload_n hX_ hB_ dL_law_33 rfl (lv_at hl 0 rfl) ?_
      refine lv_iload hX_ hB_ dL_law_34 (lv_at hl 4 rfl) ?_
      refine zk_sld hX_ hB_ hXs hbl hbA hS (by omega) (by omega) dL_law_36 ?_
      refine zk_bipush hX_ hB_ (by decide) dL_law_37 ?_
      refine lv_iand hX_ hB_ dL_law_39 ?_
      refine zk_topi (y := iz (am5 (xv xs i))) (am5_eq _) ?_
      have hr5 := am5_rng (xv xs i)
      have hi6 : 0 ≤ i ∧ i + 6 ≤ L := by omega
      have hC9 : C9 + 8 ≤ 601024 ∧ S9 + 500 ≤ 7293034 := by omega
      exact LSt_elim hLS (fun bA stA rd_ fi nt ks sA tb dA w1 w2 w3 w4 b1 b2 b3 b4 mem fr to_ da gr of_ jo jsA eA nA oA tA aA xA bsA tpA loA hiA toA mnA dyA frA t2A faA akA paA ofA seA ecA nmA ad M tc sc rz fault len at_ kept many size mcn few slv zs naming sbs sba ssn sag ssl sht sbm th msz mat am wr bst bmn bsm wg heard miw iso msl msh bs bt days fF tT dD js ec dO kt kd kx to mm dy ak pa of mec sb sa mb st tp nm se wf1 wg1 wf2 wg2 wf3 wg3 wf4 wg4 lo hi ov so ss sd sts Ls fs hP hD hT hTp hSt hN hSk hM => lw_disp l hl0 G ga kfo kkt kkd ksa kva ma mv F hbl hXs hK hCE hL h mo ou i hi6 C9 S9 hC9 step bA stA rd_ fi nt ks sA tb dA w1 w2 w3 w4 b1 b2 b3 b4 mem fr to_ da gr of_ jo jsA eA nA oA tA aA xA bsA tpA loA hiA toA mnA dyA frA t2A faA akA paA ofA seA ecA nmA ad M tc sc rz fault len at_ kept many size mcn few slv zs naming sbs sba ssn sag ssl sht sbm th msz mat am wr bst bmn bsm wg heard miw iso msl msh bs bt days fF tT dD js ec dO kt kd kx to mm dy ak pa of mec sb sa mb st tp nm se wf1 wg1 wf2 wg2 wf3 wg3 wf4 wg4 lo hi ov so ss sd sts Ls fs hT hTp hSt hN hSk hM H locs ls hP hD hS hl _ hr5)
