
/-! the law's own methods: each catches what its call throws -/
def ex3 : List String := ["java/lang/IllegalArgumentException", "java/lang/IllegalStateException", "java/lang/IndexOutOfBoundsException"]
def CtE : EE := fun _ U _ => (∀ n ∈ ex3, va_Nw (.castable n n) U) ∧ ∀ n ∈ ex3, ∀ k ∈ ex3, n ≠ k → va_Nc n k U
theorem ctE_ext : Ext CtE := ⟨fun A u U H hv h => ⟨fun n hn => cd_warm rfl hv (h.1 n hn), fun n hn k hk hq => va_Nc.moved hv.alike (h.2 n hn k hk hq)⟩, fun A U H H1 hq h => h, fun A B U H hq h => h⟩
section IntroW
variable {l : Launch} {y : MethodName} {w w' : List Cond} {rm : Room} {G : GG} {E : EE} {av : List Value} {ws : va_W} {mc ms maxL : Nat} {cc : ByteArray} {ret : Option FieldType} {hh : List (Nat × Nat × Nat × Nat)}
theorem Ciw_intro {S : Type} {wf : S → va_W} {post : Int32 → S → Prop} (hy : plainName y.cls = true) (hw : w = .codeWith y cc maxL ret hh :: w') (hlen : (lg_sl av).length ≤ maxL)
    (body : ∀ (p : Program) (e : Env) (s : State) (m : MethodId) (below : List Frame) (meth : Method) (c : Code) (A : Nat → Prop), Fx p s m meth c y w cc maxL ret av.toArray → c.exceptionTable.toList = tableOf hh → (∀ q, s.heap.size ≤ q → A q) → va_P G.1 vwCl ws s.heap → va_D A ws → KK G s → E A s s.heap →
      ∀ ls : Array Slot, lv_has ls maxL (lv_args 0 av) → W p l e rm s m av.toArray below meth c s.heap [] 0 0 (MQ below (va_Qi post (fun u t => Pst G A (wf u) t) A) av.toArray s mc ms A) (F0 m 0 ls [])) : Ci l y w rm G E av ws mc ms wf post := by
  intro sz
  refine MetFree.of_bodyS (code := cc) (maxLocals := maxL) (ret := ret) hy ?_ ?_
  · intro args s m h hn
    obtain ⟨m9, meth, c, hn9, h1, h2, h3, h4, -, h5, h6, -⟩ := Cond.codeWith_spec (atoms_spec (ws := w) h _ (by rw [hw]; exact List.mem_cons_self))
    cases Option.some.inj (hn9.symm.trans hn)
    exact ⟨meth, c, h1, h2, h3, h4, h5, h6⟩
  · intro p e s m args below meth c s₁ B hml hv _
    have hh0 : s₁.heap = s.heap := by rw [B.state]; rfl
    have htb := vx_table (x := y) B (atoms_spec (ws := w) B.pre _ (by rw [hw]; exact List.mem_cons_self))
    obtain ⟨rfl, hsz, hP, hK, hD0, hE⟩ := hv
    subst hsz
    have hb := body p e s m below meth c _ ⟨B.exec, B.bytes, B.returns, hml, findClass_of_methodNamed B.named, atoms_spec (ws := w) B.pre, B.notSynchronized, (name_of_methodNamed B.named B.method).1⟩ htb (fun q h => Or.inr h) hP hD0.self hK hE _ (lv_entry av hlen)
    rw [← lg_entry_eq] at hb
    obtain ⟨t, a1, o, b1, b2, b3⟩ := hb s₁ hh0 (Stand.of_body B)
    exact ⟨t, o, a1, b1, b2, ⟨b3.1, b3.2⟩⟩
end IntroW
section XP
variable {p : Program} {l : Launch} {e : Env} {R : Room} {s : State} {m : MethodId} {args : Array Value} {below : List Frame} {meth : Method} {c : Code} {H : Heap} {locs : List Loc} {cells slots : Nat} {Q : State → Prop} {pc : Nat} {ls : Array Slot} {A : Nat → Prop} {G : GG} {E : EE} {S : Type} {wf : S → va_W} {pf : S → va_W} {mc ms : Nat} {rest st0 : List Value} {a : Array Value} {X wc wr PP : va_W} {xp : String → Prop}
theorem xbackP_i {post : Int32 → S → Prop} (hr : vx_Run p l e R s m args below meth c H locs cells slots mc ms (F0 m pc ls st0) rest (Qki G (fun u => wf u ++ pf u) post (va_A (wc ++ PP) H.size) a) (vx_X (fun _ : Unit => True) (fun En _ t => xp En ∧ Pst G (va_A (wc ++ PP) H.size) (wc ++ PP) t) (va_A (wc ++ PP) H.size)) (va_A (wc ++ PP) H.size)) (hP : va_P G.1 vwCl (X ++ PP) H) (hD : va_D A (X ++ PP)) (hS : va_S A s.heap H locs) (hA : ∀ q, s.heap.size ≤ q → A q) (isC isR : List Nat) (hC : isC.map (fun i => X[i]?) = wc.map some) (hR : isR.map (fun i => X[i]?) = wr.map some) (hnd : va_nd isR = true) (hdis : ∀ i ∈ isR, i ∉ isC)
    (kx : ∀ (En : String) (ce : Cell) (q9 : Addr) (H1 : Heap) (locs1 : List Loc), xp En → va_P G.1 vwCl ((wr ++ wc) ++ PP) H1 → va_D A ((wr ++ wc) ++ PP) → va_S A s.heap H1 locs1 → H1[q9]? = some ce → ce.vm = .none → s.vm.findClass En = some ce.cls → vx_W p l e R s m args below meth c H1 locs1 (cells + mc) (slots + ms) Q (F0 m pc ls rest) q9)
    (kk : ∀ (r : Int32) (u : S) (H1 : Heap) (locs1 : List Loc), post r u → va_P G.1 vwCl ((wr ++ wf u) ++ pf u) H1 → va_D A ((wr ++ wf u) ++ pf u) → va_S A s.heap H1 locs1 → W p l e R s m args below meth c H1 locs1 (cells + mc) (slots + ms) Q (F0 m (pc + 3) ls (.int r :: rest))) : W p l e R s m args below meth c H locs cells slots Q (F0 m pc ls st0) := by
  have hFc := va_freeP (cx := wc) hD hS hA isC hC
  refine vx_calli hr hS (fun q _ h => hFc q h) hFc (fun q _ h => hFc q h) (fun En ce q9 u t H1 locs1 ht hvm hw hB hz1 hk1 hS1 g1 g2 g3 => ?_) (fun r u t H1 locs1 ht hvm hw hB hz1 hk1 hS1 => ?_)
  · obtain ⟨hx, hP1, hK1, hD1⟩ := hB
    rw [ht] at hP1
    obtain ⟨hP2, hD2⟩ := va_joinP (wr := wr) (rx := wc) (pl1 := PP) hP hD isC isR hC hR hnd hdis hk1 hFc hP1 hD1
    exact kx En ce q9 H1 locs1 hx hP2 hD2 hS1 g1 g2 g3
  · obtain ⟨hP1, hK1, hD1⟩ := hB
    rw [ht] at hP1
    obtain ⟨hP2, hD2⟩ := va_joinP (wr := wr) (rx := wf u) (pl1 := pf u) hP hD isC isR hC hR hnd hdis hk1 hFc hP1 hD1
    exact kk r u H1 locs1 hw hP2 hD2 hS1
end XP
def FitE (sa : Int → Option Nat) (ss : Int → Nat) (sb : Int → Int) (sts : Int → Int → Int32) : EE := fun A U H => ∀ k : Int, 0 ≤ k → k < 30 → ∀ x, sa k = some x → va_O "StoneDates$Stone" x A U H ∧ StSE x (ss k) (sb k) (sts k) A U H
theorem fitE_ext (sa : Int → Option Nat) (ss : Int → Nat) (sb : Int → Int) (sts : Int → Int → Int32) : Ext (FitE sa ss sb sts) :=
  ⟨fun A u U H hv h k h1 h2 x hx => ⟨va_O.moved hv.alike (h k h1 h2 x hx).1, (stSE_ext _ _ _ _).1 A u U H hv (h k h1 h2 x hx).2⟩, fun A U H H1 hq h k h1 h2 x hx => ⟨(h k h1 h2 x hx).1.kept hq, (stSE_ext _ _ _ _).2.1 A U H H1 hq (h k h1 h2 x hx).2⟩, fun A B U H hq h k h1 h2 x hx => ⟨(h k h1 h2 x hx).1.narrow hq, (stSE_ext _ _ _ _).2.2 A B U H hq (h k h1 h2 x hx).2⟩⟩
theorem mdv_X8_town : yX8_town.cls = RX8 ∧ yX8_town.cls ≠ "java/lang/invoke/MethodHandle" ∧ yX8_town.cls ≠ "java/lang/invoke/VarHandle" ∧ (parseMethodDescriptor yX8_town.desc).map (fun d => d.parameters.length) = some 1 := by decide +kernel
set_option maxHeartbeats 4000000 in
set_option maxRecDepth 100000 in
theorem c_L_town_ok (l : Launch) (G : GG) (hl0 : l.stackTraces = false) (ga : Nat → Nat) (h : Nat) (bA : Nat) (stA : Nat) (rd_ : Nat) (fi : Nat) (ne : Nat) (ks : Nat) (tc : Int) (sc : Int) (bs : Int → Int) (b : Int) (ou : Nat) (ov : Int → Int64) (hb0 : R31 b) (ht : 0 ≤ tc ∧ tc ≤ 10) (hV9 : (0 ≤ b ∧ b < 4400) ∧ tc < 10) : Ci l yL_town wsL_town ({ frames := 7, cells := 1, slots := 6, locals := 111 }) G (And2 (ThE ga) CtE) [.ref h, .int (iz b), .ref ou] [(h, .inr (6, [.ref bA, .ref stA, .ref rd_, .ref fi, .ref ne, .ref ks, .int (iz tc), .int (iz sc)])), (bA, .inl (G.2 0, 10, .inl (av bs))), (ou, .inl (G.2 2, 1, .inr (.inl (rv ov))))] 1 6 (fun _ : Unit => [(h, .inr (6, [.ref bA, .ref stA, .ref rd_, .ref fi, .ref ne, .ref ks, .int (iz (tc + 1)), .int (iz sc)])), (bA, .inl (G.2 0, 10, .inl (av (us bs tc b)))), (ou, .inl (G.2 2, 1, .inr (.inl (rv (us ov 0 ((iz tc).toInt64))))))]) (fun (r : Int32) (_ : Unit) => (r = (iz 0)) ∧ ((0 ≤ b ∧ b < 4400) ∧ tc < 10)) := by
  refine Ciw_intro (cc := cL_town) (maxL := 4) (ret := (some .int)) (hh := [(0, 9, 12, 13), (0, 9, 15, 15)]) (by decide) rfl (Nat.le_of_ble_eq_true rfl) ?_
  intro p e s m below meth c A F htb hA hP hD hK hE ls hl
  have hX_ := F.1
  have hB_ := F.2.1
  have hts := F.2.2.2.2.2.1
  have hown := F.2.2.2.2.1
  have hml := F.2.2.2.1
  have hS : va_S A s.heap s.heap [] := va_S.rf
  have hl : lv_has ls 4 [(0, .ref h), (1, .int (iz b)), (2, .ref ou)] := hl
  refine lv_aload_n hX_ hB_ dL_town_0 rfl (lv_at hl 2 rfl) ?_
  refine zk_iconst hX_ hB_ dL_town_1 ?_
  refine lv_aload_n hX_ hB_ dL_town_2 rfl (lv_at hl 0 rfl) ?_
  refine lv_iload_n hX_ hB_ dL_town_3 rfl (lv_at hl 1 rfl) ?_
  refine xback_i (wr := [(ou, .inl (G.2 2, 1, .inr (.inl (rv ov))))]) (xrun_V (As := [.int (iz b)]) (rest := [.int (iz 0), .ref ou]) (wc := [(h, .inr (6, [.ref bA, .ref stA, .ref rd_, .ref fi, .ref ne, .ref ks, .int (iz tc), .int (iz sc)])), (bA, .inl (G.2 0, 10, .inl (av bs)))]) F (c_X8_town l G hl0 ga h bA stA rd_ fi ne ks tc sc bs b hb0 ht) (thE_ext ga) gL_town_X8_town rfl rfl rfl mdv_X8_town ⟨Nat.le_of_ble_eq_true rfl, Nat.le_of_ble_eq_true rfl⟩ (va_recv hK.1 (hP.sub (ws' := [(h, .inr (6, [.ref bA, .ref stA, .ref rd_, .ref fi, .ref ne, .ref ks, .int (iz tc), .int (iz sc)])), (bA, .inl (G.2 0, 10, .inl (av bs)))]) [0, 1] rfl) (ci := 6) (q0 := 0) rfl rfl) (pre_of (thE_ext ga) hK hP hD hS hA hE.1 [0, 1] (by decide) rfl _) rfl hl.1 (Nat.le_of_ble_eq_true rfl) dL_town_4 ⟨by decide, by decide⟩) hP hD hS hA [0, 1] [2] rfl rfl (by decide) (by decide) (fun En ce q9 H locs hx hP hD hS g1 g2 g3 => ?_) (fun r__ u__ H locs hw hP hD hS => ?_)
  · skip
    have hP := hP.sub (ws' := [(h, .inr (6, [.ref bA, .ref stA, .ref rd_, .ref fi, .ref ne, .ref ks, .int (iz tc), .int (iz sc)])), (bA, .inl (G.2 0, 10, .inl (av bs))), (ou, .inl (G.2 2, 1, .inr (.inl (rv ov))))]) [1, 2, 0] rfl
    have hD := hD.sub (ws' := [(h, .inr (6, [.ref bA, .ref stA, .ref rd_, .ref fi, .ref ne, .ref ks, .int (iz tc), .int (iz sc)])), (bA, .inl (G.2 0, 10, .inl (av bs))), (ou, .inl (G.2 2, 1, .inr (.inl (rv ov))))]) [1, 2, 0] (by decide) rfl
    exact absurd hV9 (by rcases hx with ⟨hq0, rfl⟩ | ⟨hq0, hq1, rfl⟩ <;> omega)
  obtain ⟨rfl, hw_4⟩ := hw
  have hP := hP.sub (ws' := [(h, .inr (6, [.ref bA, .ref stA, .ref rd_, .ref fi, .ref ne, .ref ks, .int (iz (tc + 1)), .int (iz sc)])), (bA, .inl (G.2 0, 10, .inl (av (us bs tc b)))), (ou, .inl (G.2 2, 1, .inr (.inl (rv ov))))]) [1, 2, 0] rfl
  have hD := hD.sub (ws' := [(h, .inr (6, [.ref bA, .ref stA, .ref rd_, .ref fi, .ref ne, .ref ks, .int (iz (tc + 1)), .int (iz sc)])), (bA, .inl (G.2 0, 10, .inl (av (us bs tc b)))), (ou, .inl (G.2 2, 1, .inr (.inl (rv ov))))]) [1, 2, 0] (by decide) rfl
  refine zk_topi (y := (iz tc)) rfl ?_
  refine lv_i2l hX_ hB_ dL_town_7 rfl ?_
  refine zk_last hX_ hB_ hK.1 hP hD hS 2 2 rfl rfl (by omega) (by decide) dL_town_8 (fun H locs hP hD hS => ?_)
  have hP : va_P G.1 vwCl [(h, .inr (6, [.ref bA, .ref stA, .ref rd_, .ref fi, .ref ne, .ref ks, .int (iz (tc + 1)), .int (iz sc)])), (bA, .inl (G.2 0, 10, .inl (av (us bs tc b)))), (ou, .inl (G.2 2, 1, .inr (.inl (rv (us ov 0 ((iz tc).toInt64))))))] _ := hP
  have hD : va_D A [(h, .inr (6, [.ref bA, .ref stA, .ref rd_, .ref fi, .ref ne, .ref ks, .int (iz (tc + 1)), .int (iz sc)])), (bA, .inl (G.2 0, 10, .inl (av (us bs tc b)))), (ou, .inl (G.2 2, 1, .inr (.inl (rv (us ov 0 ((iz tc).toInt64))))))] := hD
  refine lv_goto (tgt := 18) hX_ hB_ dL_town_9 (by decide) ?_
  refine zk_iconst hX_ hB_ dL_town_18 ?_
  exact fin_i (wf := (fun _ : Unit => [(h, .inr (6, [.ref bA, .ref stA, .ref rd_, .ref fi, .ref ne, .ref ks, .int (iz (tc + 1)), .int (iz sc)])), (bA, .inl (G.2 0, 10, .inl (av (us bs tc b)))), (ou, .inl (G.2 2, 1, .inr (.inl (rv (us ov 0 ((iz tc).toInt64))))))])) () F rfl hP hD hK hS (by decide) (by decide) dL_town_19 (by exact ⟨rfl, hw_4⟩)

theorem hw_L_town_4bcdaf : (.classLink RL 13 "java/lang/IllegalArgumentException" : Cond) ∈ wsL_town := by decide +kernel
theorem hw_L_town_f177f5 : (.classLink RL 15 "java/lang/IllegalStateException" : Cond) ∈ wsL_town := by decide +kernel
set_option maxHeartbeats 4000000 in
set_option maxRecDepth 100000 in
theorem c_L_town_x (l : Launch) (G : GG) (hl0 : l.stackTraces = false) (ga : Nat → Nat) (h : Nat) (bA : Nat) (stA : Nat) (rd_ : Nat) (fi : Nat) (ne : Nat) (ks : Nat) (tc : Int) (sc : Int) (bs : Int → Int) (b : Int) (ou : Nat) (ov : Int → Int64) (hb0 : R31 b) (ht : 0 ≤ tc ∧ tc ≤ 10) (hx9 : ((¬ (0 ≤ b ∧ b < 4400)) ∨ ((0 ≤ b ∧ b < 4400) ∧ tc = 10))) : Ci l yL_town wsL_town ({ frames := 7, cells := 1, slots := 6, locals := 111 }) G (And2 (ThE ga) CtE) [.ref h, .int (iz b), .ref ou] [(h, .inr (6, [.ref bA, .ref stA, .ref rd_, .ref fi, .ref ne, .ref ks, .int (iz tc), .int (iz sc)])), (bA, .inl (G.2 0, 10, .inl (av bs))), (ou, .inl (G.2 2, 1, .inr (.inl (rv ov))))] 1 6 (fun k2 : Int => [(h, .inr (6, [.ref bA, .ref stA, .ref rd_, .ref fi, .ref ne, .ref ks, .int (iz tc), .int (iz sc)])), (bA, .inl (G.2 0, 10, .inl (av bs))), (ou, .inl (G.2 2, 1, .inr (.inl (rv ov))))]) (fun (r : Int32) (k2 : Int) => (r = (iz k2)) ∧ ((¬ (0 ≤ b ∧ b < 4400) → k2 = 1) ∧ ((0 ≤ b ∧ b < 4400) ∧ tc = 10 → k2 = 2))) := by
  refine Ciw_intro (cc := cL_town) (maxL := 4) (ret := (some .int)) (hh := [(0, 9, 12, 13), (0, 9, 15, 15)]) (by decide) rfl (Nat.le_of_ble_eq_true rfl) ?_
  intro p e s m below meth c A F htb hA hP hD hK hE ls hl
  have hX_ := F.1
  have hB_ := F.2.1
  have hts := F.2.2.2.2.2.1
  have hown := F.2.2.2.2.1
  have hml := F.2.2.2.1
  have hS : va_S A s.heap s.heap [] := va_S.rf
  have hl : lv_has ls 4 [(0, .ref h), (1, .int (iz b)), (2, .ref ou)] := hl
  refine lv_aload_n hX_ hB_ dL_town_0 rfl (lv_at hl 2 rfl) ?_
  refine zk_iconst hX_ hB_ dL_town_1 ?_
  refine lv_aload_n hX_ hB_ dL_town_2 rfl (lv_at hl 0 rfl) ?_
  refine lv_iload_n hX_ hB_ dL_town_3 rfl (lv_at hl 1 rfl) ?_
  refine xback_i (wr := [(ou, .inl (G.2 2, 1, .inr (.inl (rv ov))))]) (xrun_V (As := [.int (iz b)]) (rest := [.int (iz 0), .ref ou]) (wc := [(h, .inr (6, [.ref bA, .ref stA, .ref rd_, .ref fi, .ref ne, .ref ks, .int (iz tc), .int (iz sc)])), (bA, .inl (G.2 0, 10, .inl (av bs)))]) F (c_X8_town l G hl0 ga h bA stA rd_ fi ne ks tc sc bs b hb0 ht) (thE_ext ga) gL_town_X8_town rfl rfl rfl mdv_X8_town ⟨Nat.le_of_ble_eq_true rfl, Nat.le_of_ble_eq_true rfl⟩ (va_recv hK.1 (hP.sub (ws' := [(h, .inr (6, [.ref bA, .ref stA, .ref rd_, .ref fi, .ref ne, .ref ks, .int (iz tc), .int (iz sc)])), (bA, .inl (G.2 0, 10, .inl (av bs)))]) [0, 1] rfl) (ci := 6) (q0 := 0) rfl rfl) (pre_of (thE_ext ga) hK hP hD hS hA hE.1 [0, 1] (by decide) rfl _) rfl hl.1 (Nat.le_of_ble_eq_true rfl) dL_town_4 ⟨by decide, by decide⟩) hP hD hS hA [0, 1] [2] rfl rfl (by decide) (by decide) (fun En ce q9 H locs hx hP hD hS g1 g2 g3 => ?_) (fun r__ u__ H locs hw hP hD hS => ?_)
  · skip
    have hP := hP.sub (ws' := [(h, .inr (6, [.ref bA, .ref stA, .ref rd_, .ref fi, .ref ne, .ref ks, .int (iz tc), .int (iz sc)])), (bA, .inl (G.2 0, 10, .inl (av bs))), (ou, .inl (G.2 2, 1, .inr (.inl (rv ov))))]) [1, 2, 0] rfl
    have hD := hD.sub (ws' := [(h, .inr (6, [.ref bA, .ref stA, .ref rd_, .ref fi, .ref ne, .ref ks, .int (iz tc), .int (iz sc)])), (bA, .inl (G.2 0, 10, .inl (av bs))), (ou, .inl (G.2 2, 1, .inr (.inl (rv ov))))]) [1, 2, 0] (by decide) rfl
    rcases hx with ⟨hq0, rfl⟩ | ⟨hq0, hq1, rfl⟩
    · skip
      skip
      refine vx_catch (own := RL) (name := "java/lang/IllegalArgumentException") hown [] ⟨0, 9, 12, 13⟩ [⟨0, 9, 15, 15⟩] (by rw [htb]; rfl) (fun z hz => absurd hz List.not_mem_nil) rfl (by decide) (hts _ hw_L_town_4bcdaf) (va_Nw.use (by decide) (hE.2.1 _ (by decide))) g1 g2 g3 ?_
      refine lv_astore_n (lv' := [(3, .ref q9), (0, .ref h), (1, .int (iz b)), (2, .ref ou)]) hX_ hB_ dL_town_12 rfl hl (by decide) rfl (fun ls hl => ?_)
      refine zk_iconst hX_ hB_ dL_town_13 ?_
      exact fin_i (wf := (fun k2 : Int => [(h, .inr (6, [.ref bA, .ref stA, .ref rd_, .ref fi, .ref ne, .ref ks, .int (iz tc), .int (iz sc)])), (bA, .inl (G.2 0, 10, .inl (av bs))), (ou, .inl (G.2 2, 1, .inr (.inl (rv ov))))])) 1 F rfl hP hD hK hS (by decide) (by decide) dL_town_14 (by exact ⟨rfl, fun _ => rfl, fun q_ => absurd q_ (by omega)⟩)
    · skip
      skip
      have hps : ∀ z ∈ ([⟨0, 9, 12, 13⟩] : List ExceptionTableEntry), covers z 4 = false ∨ (z.catchType ≠ 0 ∧ ∃ nm : String, (Cond.classLink RL z.catchType nm).before ([.ref h, .int (iz b), .ref ou] : List Value).toArray s = true ∧ va_Nc "java/lang/IllegalStateException" nm s) := by
        intro z hz
        cases List.mem_singleton.mp hz
        exact Or.inr ⟨by decide, "java/lang/IllegalArgumentException", (hts _ hw_L_town_4bcdaf), hE.2.2 _ (by decide) _ (by decide) (by decide)⟩
      refine vx_catch (own := RL) (name := "java/lang/IllegalStateException") hown [⟨0, 9, 12, 13⟩] ⟨0, 9, 15, 15⟩ [] (by rw [htb]; rfl) hps rfl (by decide) (hts _ hw_L_town_f177f5) (va_Nw.use (by decide) (hE.2.1 _ (by decide))) g1 g2 g3 ?_
      refine lv_astore_n (lv' := [(3, .ref q9), (0, .ref h), (1, .int (iz b)), (2, .ref ou)]) hX_ hB_ dL_town_15 rfl hl (by decide) rfl (fun ls hl => ?_)
      refine zk_iconst hX_ hB_ dL_town_16 ?_
      exact fin_i (wf := (fun k2 : Int => [(h, .inr (6, [.ref bA, .ref stA, .ref rd_, .ref fi, .ref ne, .ref ks, .int (iz tc), .int (iz sc)])), (bA, .inl (G.2 0, 10, .inl (av bs))), (ou, .inl (G.2 2, 1, .inr (.inl (rv ov))))])) 2 F rfl hP hD hK hS (by decide) (by decide) dL_town_17 (by exact ⟨rfl, fun q_ => absurd q_ (by omega), fun _ => rfl⟩)
  obtain ⟨rfl, hw_4⟩ := hw
  have hP := hP.sub (ws' := [(h, .inr (6, [.ref bA, .ref stA, .ref rd_, .ref fi, .ref ne, .ref ks, .int (iz (tc + 1)), .int (iz sc)])), (bA, .inl (G.2 0, 10, .inl (av (us bs tc b)))), (ou, .inl (G.2 2, 1, .inr (.inl (rv ov))))]) [1, 2, 0] rfl
  have hD := hD.sub (ws' := [(h, .inr (6, [.ref bA, .ref stA, .ref rd_, .ref fi, .ref ne, .ref ks, .int (iz (tc + 1)), .int (iz sc)])), (bA, .inl (G.2 0, 10, .inl (av (us bs tc b)))), (ou, .inl (G.2 2, 1, .inr (.inl (rv ov))))]) [1, 2, 0] (by decide) rfl
  exact absurd hx9 (by omega)

theorem mdv_X8_of : yX8_of.cls = RX8 ∧ yX8_of.cls ≠ "java/lang/invoke/MethodHandle" ∧ yX8_of.cls ≠ "java/lang/invoke/VarHandle" ∧ (parseMethodDescriptor yX8_of.desc).map (fun d => d.parameters.length) = some 2 := by decide +kernel
set_option maxHeartbeats 4000000 in
set_option maxRecDepth 100000 in
theorem c_L_of_ok (l : Launch) (G : GG) (hl0 : l.stackTraces = false) (ga : Nat → Nat) (h : Nat) (bA : Nat) (stA : Nat) (rd_ : Nat) (fi : Nat) (ne : Nat) (ks : Nat) (tc : Int) (sc : Int) (d : Int) (k : Int) (ou : Nat) (ov : Int → Int64) (hd : R31 d) (hk : R31 k) (hV9 : isDay d = true ∧ 0 ≤ k ∧ k ≤ 9) : Ci l yL_of wsL_of ({ frames := 8, cells := 2, slots := 12, locals := 133 }) G (And2 (ThE ga) CtE) [.ref h, .int (iz d), .int (iz k), .ref ou] [(h, .inr (6, [.ref bA, .ref stA, .ref rd_, .ref fi, .ref ne, .ref ks, .int (iz tc), .int (iz sc)])), (ou, .inl (G.2 2, 1, .inr (.inl (rv ov))))] 2 12 (fun _ : Unit => [(h, .inr (6, [.ref bA, .ref stA, .ref rd_, .ref fi, .ref ne, .ref ks, .int (iz tc), .int (iz sc)])), (ou, .inl (G.2 2, 1, .inr (.inl (rv (us ov 0 ((iz (sgn d k 0)).toInt64))))))]) (fun (r : Int32) (_ : Unit) => (r = (iz 0)) ∧ (isDay d = true ∧ 0 ≤ k ∧ k ≤ 9)) := by
  refine Ciw_intro (cc := cL_of) (maxL := 5) (ret := (some .int)) (hh := [(0, 10, 13, 13)]) (by decide) rfl (Nat.le_of_ble_eq_true rfl) ?_
  intro p e s m below meth c A F htb hA hP hD hK hE ls hl
  have hX_ := F.1
  have hB_ := F.2.1
  have hts := F.2.2.2.2.2.1
  have hown := F.2.2.2.2.1
  have hml := F.2.2.2.1
  have hS : va_S A s.heap s.heap [] := va_S.rf
  have hl : lv_has ls 5 [(0, .ref h), (1, .int (iz d)), (2, .int (iz k)), (3, .ref ou)] := hl
  refine lv_aload_n hX_ hB_ dL_of_0 rfl (lv_at hl 3 rfl) ?_
  refine zk_iconst hX_ hB_ dL_of_1 ?_
  refine lv_aload_n hX_ hB_ dL_of_2 rfl (lv_at hl 0 rfl) ?_
  refine lv_iload_n hX_ hB_ dL_of_3 rfl (lv_at hl 1 rfl) ?_
  refine lv_iload_n hX_ hB_ dL_of_4 rfl (lv_at hl 2 rfl) ?_
  refine xback_i (wr := [(ou, .inl (G.2 2, 1, .inr (.inl (rv ov))))]) (xrun_V (As := [.int (iz d), .int (iz k)]) (rest := [.int (iz 0), .ref ou]) (wc := [(h, .inr (6, [.ref bA, .ref stA, .ref rd_, .ref fi, .ref ne, .ref ks, .int (iz tc), .int (iz sc)]))]) F (c_X8_of l G hl0 ga h bA stA rd_ fi ne ks tc sc d k hd hk) (thE_ext ga) gL_of_X8_of rfl rfl rfl mdv_X8_of ⟨Nat.le_of_ble_eq_true rfl, Nat.le_of_ble_eq_true rfl⟩ (va_recv hK.1 (hP.sub (ws' := [(h, .inr (6, [.ref bA, .ref stA, .ref rd_, .ref fi, .ref ne, .ref ks, .int (iz tc), .int (iz sc)]))]) [0] rfl) (ci := 6) (q0 := 0) rfl rfl) (pre_of (thE_ext ga) hK hP hD hS hA hE.1 [0] (by decide) rfl _) rfl hl.1 (Nat.le_of_ble_eq_true rfl) dL_of_5 ⟨by decide, by decide⟩) hP hD hS hA [0] [1] rfl rfl (by decide) (by decide) (fun En ce q9 H locs hx hP hD hS g1 g2 g3 => ?_) (fun r__ u__ H locs hw hP hD hS => ?_)
  · skip
    have hP := hP.sub (ws' := [(h, .inr (6, [.ref bA, .ref stA, .ref rd_, .ref fi, .ref ne, .ref ks, .int (iz tc), .int (iz sc)])), (ou, .inl (G.2 2, 1, .inr (.inl (rv ov))))]) [1, 0] rfl
    have hD := hD.sub (ws' := [(h, .inr (6, [.ref bA, .ref stA, .ref rd_, .ref fi, .ref ne, .ref ks, .int (iz tc), .int (iz sc)])), (ou, .inl (G.2 2, 1, .inr (.inl (rv ov))))]) [1, 0] (by decide) rfl
    exact absurd hV9 hx.1
  obtain ⟨rfl, hw_5⟩ := hw
  have hP := hP.sub (ws' := [(h, .inr (6, [.ref bA, .ref stA, .ref rd_, .ref fi, .ref ne, .ref ks, .int (iz tc), .int (iz sc)])), (ou, .inl (G.2 2, 1, .inr (.inl (rv ov))))]) [1, 0] rfl
  have hD := hD.sub (ws' := [(h, .inr (6, [.ref bA, .ref stA, .ref rd_, .ref fi, .ref ne, .ref ks, .int (iz tc), .int (iz sc)])), (ou, .inl (G.2 2, 1, .inr (.inl (rv ov))))]) [1, 0] (by decide) rfl
  refine zk_topi (y := (iz (sgn d k 0))) rfl ?_
  refine lv_i2l hX_ hB_ dL_of_8 rfl ?_
  refine zk_last hX_ hB_ hK.1 hP hD hS 1 2 rfl rfl (by omega) (by decide) dL_of_9 (fun H locs hP hD hS => ?_)
  have hP : va_P G.1 vwCl [(h, .inr (6, [.ref bA, .ref stA, .ref rd_, .ref fi, .ref ne, .ref ks, .int (iz tc), .int (iz sc)])), (ou, .inl (G.2 2, 1, .inr (.inl (rv (us ov 0 ((iz (sgn d k 0)).toInt64))))))] _ := hP
  have hD : va_D A [(h, .inr (6, [.ref bA, .ref stA, .ref rd_, .ref fi, .ref ne, .ref ks, .int (iz tc), .int (iz sc)])), (ou, .inl (G.2 2, 1, .inr (.inl (rv (us ov 0 ((iz (sgn d k 0)).toInt64))))))] := hD
  refine lv_goto (tgt := 17) hX_ hB_ dL_of_10 (by decide) ?_
  refine zk_iconst hX_ hB_ dL_of_17 ?_
  exact fin_i (wf := (fun _ : Unit => [(h, .inr (6, [.ref bA, .ref stA, .ref rd_, .ref fi, .ref ne, .ref ks, .int (iz tc), .int (iz sc)])), (ou, .inl (G.2 2, 1, .inr (.inl (rv (us ov 0 ((iz (sgn d k 0)).toInt64))))))])) () F rfl hP hD hK hS (by decide) (by decide) dL_of_18 (by exact ⟨rfl, hw_5⟩)

theorem hw_L_of_4bcdaf : (.classLink RL 13 "java/lang/IllegalArgumentException" : Cond) ∈ wsL_of := by decide +kernel
set_option maxHeartbeats 4000000 in
set_option maxRecDepth 100000 in
theorem c_L_of_x (l : Launch) (G : GG) (hl0 : l.stackTraces = false) (ga : Nat → Nat) (h : Nat) (bA : Nat) (stA : Nat) (rd_ : Nat) (fi : Nat) (ne : Nat) (ks : Nat) (tc : Int) (sc : Int) (d : Int) (k : Int) (ou : Nat) (ov : Int → Int64) (hd : R31 d) (hk : R31 k) (hx9 : ((¬ (isDay d = true ∧ 0 ≤ k ∧ k ≤ 9)))) : Ci l yL_of wsL_of ({ frames := 8, cells := 2, slots := 12, locals := 133 }) G (And2 (ThE ga) CtE) [.ref h, .int (iz d), .int (iz k), .ref ou] [(h, .inr (6, [.ref bA, .ref stA, .ref rd_, .ref fi, .ref ne, .ref ks, .int (iz tc), .int (iz sc)])), (ou, .inl (G.2 2, 1, .inr (.inl (rv ov))))] 2 12 (fun k2 : Int => [(h, .inr (6, [.ref bA, .ref stA, .ref rd_, .ref fi, .ref ne, .ref ks, .int (iz tc), .int (iz sc)])), (ou, .inl (G.2 2, 1, .inr (.inl (rv ov))))]) (fun (r : Int32) (k2 : Int) => (r = (iz k2)) ∧ (¬ (isDay d = true ∧ 0 ≤ k ∧ k ≤ 9) → k2 = 1)) := by
  refine Ciw_intro (cc := cL_of) (maxL := 5) (ret := (some .int)) (hh := [(0, 10, 13, 13)]) (by decide) rfl (Nat.le_of_ble_eq_true rfl) ?_
  intro p e s m below meth c A F htb hA hP hD hK hE ls hl
  have hX_ := F.1
  have hB_ := F.2.1
  have hts := F.2.2.2.2.2.1
  have hown := F.2.2.2.2.1
  have hml := F.2.2.2.1
  have hS : va_S A s.heap s.heap [] := va_S.rf
  have hl : lv_has ls 5 [(0, .ref h), (1, .int (iz d)), (2, .int (iz k)), (3, .ref ou)] := hl
  refine lv_aload_n hX_ hB_ dL_of_0 rfl (lv_at hl 3 rfl) ?_
  refine zk_iconst hX_ hB_ dL_of_1 ?_
  refine lv_aload_n hX_ hB_ dL_of_2 rfl (lv_at hl 0 rfl) ?_
  refine lv_iload_n hX_ hB_ dL_of_3 rfl (lv_at hl 1 rfl) ?_
  refine lv_iload_n hX_ hB_ dL_of_4 rfl (lv_at hl 2 rfl) ?_
  refine xback_i (wr := [(ou, .inl (G.2 2, 1, .inr (.inl (rv ov))))]) (xrun_V (As := [.int (iz d), .int (iz k)]) (rest := [.int (iz 0), .ref ou]) (wc := [(h, .inr (6, [.ref bA, .ref stA, .ref rd_, .ref fi, .ref ne, .ref ks, .int (iz tc), .int (iz sc)]))]) F (c_X8_of l G hl0 ga h bA stA rd_ fi ne ks tc sc d k hd hk) (thE_ext ga) gL_of_X8_of rfl rfl rfl mdv_X8_of ⟨Nat.le_of_ble_eq_true rfl, Nat.le_of_ble_eq_true rfl⟩ (va_recv hK.1 (hP.sub (ws' := [(h, .inr (6, [.ref bA, .ref stA, .ref rd_, .ref fi, .ref ne, .ref ks, .int (iz tc), .int (iz sc)]))]) [0] rfl) (ci := 6) (q0 := 0) rfl rfl) (pre_of (thE_ext ga) hK hP hD hS hA hE.1 [0] (by decide) rfl _) rfl hl.1 (Nat.le_of_ble_eq_true rfl) dL_of_5 ⟨by decide, by decide⟩) hP hD hS hA [0] [1] rfl rfl (by decide) (by decide) (fun En ce q9 H locs hx hP hD hS g1 g2 g3 => ?_) (fun r__ u__ H locs hw hP hD hS => ?_)
  · skip
    have hP := hP.sub (ws' := [(h, .inr (6, [.ref bA, .ref stA, .ref rd_, .ref fi, .ref ne, .ref ks, .int (iz tc), .int (iz sc)])), (ou, .inl (G.2 2, 1, .inr (.inl (rv ov))))]) [1, 0] rfl
    have hD := hD.sub (ws' := [(h, .inr (6, [.ref bA, .ref stA, .ref rd_, .ref fi, .ref ne, .ref ks, .int (iz tc), .int (iz sc)])), (ou, .inl (G.2 2, 1, .inr (.inl (rv ov))))]) [1, 0] (by decide) rfl
    rcases hx with ⟨hq0, rfl⟩
    · skip
      skip
      refine vx_catch (own := RL) (name := "java/lang/IllegalArgumentException") hown [] ⟨0, 10, 13, 13⟩ [] (by rw [htb]; rfl) (fun z hz => absurd hz List.not_mem_nil) rfl (by decide) (hts _ hw_L_of_4bcdaf) (va_Nw.use (by decide) (hE.2.1 _ (by decide))) g1 g2 g3 ?_
      refine lv_astore (lv' := [(4, .ref q9), (0, .ref h), (1, .int (iz d)), (2, .int (iz k)), (3, .ref ou)]) hX_ hB_ dL_of_13 hl (by decide) rfl (fun ls hl => ?_)
      refine zk_iconst hX_ hB_ dL_of_15 ?_
      exact fin_i (wf := (fun k2 : Int => [(h, .inr (6, [.ref bA, .ref stA, .ref rd_, .ref fi, .ref ne, .ref ks, .int (iz tc), .int (iz sc)])), (ou, .inl (G.2 2, 1, .inr (.inl (rv ov))))])) 1 F rfl hP hD hK hS (by decide) (by decide) dL_of_16 (by exact ⟨rfl, fun _ => rfl⟩)
  obtain ⟨rfl, hw_5⟩ := hw
  have hP := hP.sub (ws' := [(h, .inr (6, [.ref bA, .ref stA, .ref rd_, .ref fi, .ref ne, .ref ks, .int (iz tc), .int (iz sc)])), (ou, .inl (G.2 2, 1, .inr (.inl (rv ov))))]) [1, 0] rfl
  have hD := hD.sub (ws' := [(h, .inr (6, [.ref bA, .ref stA, .ref rd_, .ref fi, .ref ne, .ref ks, .int (iz tc), .int (iz sc)])), (ou, .inl (G.2 2, 1, .inr (.inl (rv ov))))]) [1, 0] (by decide) rfl
  exact absurd hw_5 hx9

theorem mdv_X8_moon : yX8_moon.cls = RX8 ∧ yX8_moon.cls ≠ "java/lang/invoke/MethodHandle" ∧ yX8_moon.cls ≠ "java/lang/invoke/VarHandle" ∧ (parseMethodDescriptor yX8_moon.desc).map (fun d => d.parameters.length) = some 2 := by decide +kernel
set_option maxHeartbeats 4000000 in
set_option maxRecDepth 100000 in
theorem c_L_moon_ok (l : Launch) (G : GG) (hl0 : l.stackTraces = false) (ga : Nat → Nat) (h : Nat) (bA : Nat) (stA : Nat) (rd_ : Nat) (fi : Nat) (ne : Nat) (ks : Nat) (tc : Int) (sc : Int) (bs : Int → Int) (d : Int) (k : Int) (ou : Nat) (ov : Int → Int64) (hd : R31 d) (hk : R31 k) (ht : 0 ≤ tc ∧ tc ≤ 10) (hbs : ∀ i : Int, 0 ≤ i → i < tc → 0 ≤ bs i ∧ bs i < 4400) (hV9 : isDay d = true ∧ 0 ≤ k ∧ k < tc) : Ci l yL_moon wsL_moon ({ frames := 8, cells := 2, slots := 12, locals := 133 }) G (And2 (ThE ga) CtE) [.ref h, .int (iz d), .int (iz k), .ref ou] [(h, .inr (6, [.ref bA, .ref stA, .ref rd_, .ref fi, .ref ne, .ref ks, .int (iz tc), .int (iz sc)])), (bA, .inl (G.2 0, 10, .inl (av bs))), (ou, .inl (G.2 2, 1, .inr (.inl (rv ov))))] 2 12 (fun _ : Unit => [(h, .inr (6, [.ref bA, .ref stA, .ref rd_, .ref fi, .ref ne, .ref ks, .int (iz tc), .int (iz sc)])), (bA, .inl (G.2 0, 10, .inl (av bs))), (ou, .inl (G.2 2, 1, .inr (.inl (rv (us ov 0 ((iz (sgn d 10 (bs k))).toInt64))))))]) (fun (r : Int32) (_ : Unit) => (r = (iz 0)) ∧ (isDay d = true ∧ 0 ≤ k ∧ k < tc)) := by
  refine Ciw_intro (cc := cL_moon) (maxL := 5) (ret := (some .int)) (hh := [(0, 10, 13, 13), (0, 10, 17, 24)]) (by decide) rfl (Nat.le_of_ble_eq_true rfl) ?_
  intro p e s m below meth c A F htb hA hP hD hK hE ls hl
  have hX_ := F.1
  have hB_ := F.2.1
  have hts := F.2.2.2.2.2.1
  have hown := F.2.2.2.2.1
  have hml := F.2.2.2.1
  have hS : va_S A s.heap s.heap [] := va_S.rf
  have hl : lv_has ls 5 [(0, .ref h), (1, .int (iz d)), (2, .int (iz k)), (3, .ref ou)] := hl
  refine lv_aload_n hX_ hB_ dL_moon_0 rfl (lv_at hl 3 rfl) ?_
  refine zk_iconst hX_ hB_ dL_moon_1 ?_
  refine lv_aload_n hX_ hB_ dL_moon_2 rfl (lv_at hl 0 rfl) ?_
  refine lv_iload_n hX_ hB_ dL_moon_3 rfl (lv_at hl 1 rfl) ?_
  refine lv_iload_n hX_ hB_ dL_moon_4 rfl (lv_at hl 2 rfl) ?_
  refine xback_i (wr := [(ou, .inl (G.2 2, 1, .inr (.inl (rv ov))))]) (xrun_V (As := [.int (iz d), .int (iz k)]) (rest := [.int (iz 0), .ref ou]) (wc := [(h, .inr (6, [.ref bA, .ref stA, .ref rd_, .ref fi, .ref ne, .ref ks, .int (iz tc), .int (iz sc)])), (bA, .inl (G.2 0, 10, .inl (av bs)))]) F (c_X8_moon l G hl0 ga h bA stA rd_ fi ne ks tc sc bs d k hd hk ht hbs) (thE_ext ga) gL_moon_X8_moon rfl rfl rfl mdv_X8_moon ⟨Nat.le_of_ble_eq_true rfl, Nat.le_of_ble_eq_true rfl⟩ (va_recv hK.1 (hP.sub (ws' := [(h, .inr (6, [.ref bA, .ref stA, .ref rd_, .ref fi, .ref ne, .ref ks, .int (iz tc), .int (iz sc)])), (bA, .inl (G.2 0, 10, .inl (av bs)))]) [0, 1] rfl) (ci := 6) (q0 := 0) rfl rfl) (pre_of (thE_ext ga) hK hP hD hS hA hE.1 [0, 1] (by decide) rfl _) rfl hl.1 (Nat.le_of_ble_eq_true rfl) dL_moon_5 ⟨by decide, by decide⟩) hP hD hS hA [0, 1] [2] rfl rfl (by decide) (by decide) (fun En ce q9 H locs hx hP hD hS g1 g2 g3 => ?_) (fun r__ u__ H locs hw hP hD hS => ?_)
  · skip
    have hP := hP.sub (ws' := [(h, .inr (6, [.ref bA, .ref stA, .ref rd_, .ref fi, .ref ne, .ref ks, .int (iz tc), .int (iz sc)])), (bA, .inl (G.2 0, 10, .inl (av bs))), (ou, .inl (G.2 2, 1, .inr (.inl (rv ov))))]) [1, 2, 0] rfl
    have hD := hD.sub (ws' := [(h, .inr (6, [.ref bA, .ref stA, .ref rd_, .ref fi, .ref ne, .ref ks, .int (iz tc), .int (iz sc)])), (bA, .inl (G.2 0, 10, .inl (av bs))), (ou, .inl (G.2 2, 1, .inr (.inl (rv ov))))]) [1, 2, 0] (by decide) rfl
    exact absurd hV9 (by rcases hx with ⟨q, -⟩ | ⟨q, q2, -⟩; (rw [q]; simp); (exact fun z => q2 z.2))
  obtain ⟨rfl, hw_5⟩ := hw
  have hP := hP.sub (ws' := [(h, .inr (6, [.ref bA, .ref stA, .ref rd_, .ref fi, .ref ne, .ref ks, .int (iz tc), .int (iz sc)])), (bA, .inl (G.2 0, 10, .inl (av bs))), (ou, .inl (G.2 2, 1, .inr (.inl (rv ov))))]) [1, 2, 0] rfl
  have hD := hD.sub (ws' := [(h, .inr (6, [.ref bA, .ref stA, .ref rd_, .ref fi, .ref ne, .ref ks, .int (iz tc), .int (iz sc)])), (bA, .inl (G.2 0, 10, .inl (av bs))), (ou, .inl (G.2 2, 1, .inr (.inl (rv ov))))]) [1, 2, 0] (by decide) rfl
  refine zk_topi (y := (iz (sgn d 10 (bs k)))) rfl ?_
  refine lv_i2l hX_ hB_ dL_moon_8 rfl ?_
  refine zk_last hX_ hB_ hK.1 hP hD hS 2 2 rfl rfl (by omega) (by decide) dL_moon_9 (fun H locs hP hD hS => ?_)
  have hP : va_P G.1 vwCl [(h, .inr (6, [.ref bA, .ref stA, .ref rd_, .ref fi, .ref ne, .ref ks, .int (iz tc), .int (iz sc)])), (bA, .inl (G.2 0, 10, .inl (av bs))), (ou, .inl (G.2 2, 1, .inr (.inl (rv (us ov 0 ((iz (sgn d 10 (bs k))).toInt64))))))] _ := hP
  have hD : va_D A [(h, .inr (6, [.ref bA, .ref stA, .ref rd_, .ref fi, .ref ne, .ref ks, .int (iz tc), .int (iz sc)])), (bA, .inl (G.2 0, 10, .inl (av bs))), (ou, .inl (G.2 2, 1, .inr (.inl (rv (us ov 0 ((iz (sgn d 10 (bs k))).toInt64))))))] := hD
  refine lv_goto (tgt := 21) hX_ hB_ dL_moon_10 (by decide) ?_
  refine zk_iconst hX_ hB_ dL_moon_21 ?_
  exact fin_i (wf := (fun _ : Unit => [(h, .inr (6, [.ref bA, .ref stA, .ref rd_, .ref fi, .ref ne, .ref ks, .int (iz tc), .int (iz sc)])), (bA, .inl (G.2 0, 10, .inl (av bs))), (ou, .inl (G.2 2, 1, .inr (.inl (rv (us ov 0 ((iz (sgn d 10 (bs k))).toInt64))))))])) () F rfl hP hD hK hS (by decide) (by decide) dL_moon_22 (by exact ⟨rfl, hw_5⟩)

theorem hw_L_moon_4bcdaf : (.classLink RL 13 "java/lang/IllegalArgumentException" : Cond) ∈ wsL_moon := by decide +kernel
theorem hw_L_moon_a92a6b : (.classLink RL 24 "java/lang/IndexOutOfBoundsException" : Cond) ∈ wsL_moon := by decide +kernel
set_option maxHeartbeats 4000000 in
set_option maxRecDepth 100000 in
theorem c_L_moon_x (l : Launch) (G : GG) (hl0 : l.stackTraces = false) (ga : Nat → Nat) (h : Nat) (bA : Nat) (stA : Nat) (rd_ : Nat) (fi : Nat) (ne : Nat) (ks : Nat) (tc : Int) (sc : Int) (bs : Int → Int) (d : Int) (k : Int) (ou : Nat) (ov : Int → Int64) (hd : R31 d) (hk : R31 k) (ht : 0 ≤ tc ∧ tc ≤ 10) (hbs : ∀ i : Int, 0 ≤ i → i < tc → 0 ≤ bs i ∧ bs i < 4400) (hx9 : ((isDay d = false) ∨ (isDay d = true ∧ ¬ (0 ≤ k ∧ k < tc)))) : Ci l yL_moon wsL_moon ({ frames := 8, cells := 2, slots := 12, locals := 133 }) G (And2 (ThE ga) CtE) [.ref h, .int (iz d), .int (iz k), .ref ou] [(h, .inr (6, [.ref bA, .ref stA, .ref rd_, .ref fi, .ref ne, .ref ks, .int (iz tc), .int (iz sc)])), (bA, .inl (G.2 0, 10, .inl (av bs))), (ou, .inl (G.2 2, 1, .inr (.inl (rv ov))))] 2 12 (fun k2 : Int => [(h, .inr (6, [.ref bA, .ref stA, .ref rd_, .ref fi, .ref ne, .ref ks, .int (iz tc), .int (iz sc)])), (bA, .inl (G.2 0, 10, .inl (av bs))), (ou, .inl (G.2 2, 1, .inr (.inl (rv ov))))]) (fun (r : Int32) (k2 : Int) => (r = (iz k2)) ∧ ((isDay d = false → k2 = 1) ∧ (isDay d = true ∧ ¬ (0 ≤ k ∧ k < tc) → k2 = 2))) := by
  refine Ciw_intro (cc := cL_moon) (maxL := 5) (ret := (some .int)) (hh := [(0, 10, 13, 13), (0, 10, 17, 24)]) (by decide) rfl (Nat.le_of_ble_eq_true rfl) ?_
  intro p e s m below meth c A F htb hA hP hD hK hE ls hl
  have hX_ := F.1
  have hB_ := F.2.1
  have hts := F.2.2.2.2.2.1
  have hown := F.2.2.2.2.1
  have hml := F.2.2.2.1
  have hS : va_S A s.heap s.heap [] := va_S.rf
  have hl : lv_has ls 5 [(0, .ref h), (1, .int (iz d)), (2, .int (iz k)), (3, .ref ou)] := hl
  refine lv_aload_n hX_ hB_ dL_moon_0 rfl (lv_at hl 3 rfl) ?_
  refine zk_iconst hX_ hB_ dL_moon_1 ?_
  refine lv_aload_n hX_ hB_ dL_moon_2 rfl (lv_at hl 0 rfl) ?_
  refine lv_iload_n hX_ hB_ dL_moon_3 rfl (lv_at hl 1 rfl) ?_
  refine lv_iload_n hX_ hB_ dL_moon_4 rfl (lv_at hl 2 rfl) ?_
  refine xback_i (wr := [(ou, .inl (G.2 2, 1, .inr (.inl (rv ov))))]) (xrun_V (As := [.int (iz d), .int (iz k)]) (rest := [.int (iz 0), .ref ou]) (wc := [(h, .inr (6, [.ref bA, .ref stA, .ref rd_, .ref fi, .ref ne, .ref ks, .int (iz tc), .int (iz sc)])), (bA, .inl (G.2 0, 10, .inl (av bs)))]) F (c_X8_moon l G hl0 ga h bA stA rd_ fi ne ks tc sc bs d k hd hk ht hbs) (thE_ext ga) gL_moon_X8_moon rfl rfl rfl mdv_X8_moon ⟨Nat.le_of_ble_eq_true rfl, Nat.le_of_ble_eq_true rfl⟩ (va_recv hK.1 (hP.sub (ws' := [(h, .inr (6, [.ref bA, .ref stA, .ref rd_, .ref fi, .ref ne, .ref ks, .int (iz tc), .int (iz sc)])), (bA, .inl (G.2 0, 10, .inl (av bs)))]) [0, 1] rfl) (ci := 6) (q0 := 0) rfl rfl) (pre_of (thE_ext ga) hK hP hD hS hA hE.1 [0, 1] (by decide) rfl _) rfl hl.1 (Nat.le_of_ble_eq_true rfl) dL_moon_5 ⟨by decide, by decide⟩) hP hD hS hA [0, 1] [2] rfl rfl (by decide) (by decide) (fun En ce q9 H locs hx hP hD hS g1 g2 g3 => ?_) (fun r__ u__ H locs hw hP hD hS => ?_)
  · skip
    have hP := hP.sub (ws' := [(h, .inr (6, [.ref bA, .ref stA, .ref rd_, .ref fi, .ref ne, .ref ks, .int (iz tc), .int (iz sc)])), (bA, .inl (G.2 0, 10, .inl (av bs))), (ou, .inl (G.2 2, 1, .inr (.inl (rv ov))))]) [1, 2, 0] rfl
    have hD := hD.sub (ws' := [(h, .inr (6, [.ref bA, .ref stA, .ref rd_, .ref fi, .ref ne, .ref ks, .int (iz tc), .int (iz sc)])), (bA, .inl (G.2 0, 10, .inl (av bs))), (ou, .inl (G.2 2, 1, .inr (.inl (rv ov))))]) [1, 2, 0] (by decide) rfl
    rcases hx with ⟨hq0, rfl⟩ | ⟨hq0, hq1, rfl⟩
    · skip
      skip
      refine vx_catch (own := RL) (name := "java/lang/IllegalArgumentException") hown [] ⟨0, 10, 13, 13⟩ [⟨0, 10, 17, 24⟩] (by rw [htb]; rfl) (fun z hz => absurd hz List.not_mem_nil) rfl (by decide) (hts _ hw_L_moon_4bcdaf) (va_Nw.use (by decide) (hE.2.1 _ (by decide))) g1 g2 g3 ?_
      refine lv_astore (lv' := [(4, .ref q9), (0, .ref h), (1, .int (iz d)), (2, .int (iz k)), (3, .ref ou)]) hX_ hB_ dL_moon_13 hl (by decide) rfl (fun ls hl => ?_)
      refine zk_iconst hX_ hB_ dL_moon_15 ?_
      exact fin_i (wf := (fun k2 : Int => [(h, .inr (6, [.ref bA, .ref stA, .ref rd_, .ref fi, .ref ne, .ref ks, .int (iz tc), .int (iz sc)])), (bA, .inl (G.2 0, 10, .inl (av bs))), (ou, .inl (G.2 2, 1, .inr (.inl (rv ov))))])) 1 F rfl hP hD hK hS (by decide) (by decide) dL_moon_16 (by exact ⟨rfl, fun _ => rfl, fun q_ => absurd q_ (by exact fun z => absurd (hq0.symm.trans z.1) (by decide))⟩)
    · skip
      skip
      have hps : ∀ z ∈ ([⟨0, 10, 13, 13⟩] : List ExceptionTableEntry), covers z 5 = false ∨ (z.catchType ≠ 0 ∧ ∃ nm : String, (Cond.classLink RL z.catchType nm).before ([.ref h, .int (iz d), .int (iz k), .ref ou] : List Value).toArray s = true ∧ va_Nc "java/lang/IndexOutOfBoundsException" nm s) := by
        intro z hz
        cases List.mem_singleton.mp hz
        exact Or.inr ⟨by decide, "java/lang/IllegalArgumentException", (hts _ hw_L_moon_4bcdaf), hE.2.2 _ (by decide) _ (by decide) (by decide)⟩
      refine vx_catch (own := RL) (name := "java/lang/IndexOutOfBoundsException") hown [⟨0, 10, 13, 13⟩] ⟨0, 10, 17, 24⟩ [] (by rw [htb]; rfl) hps rfl (by decide) (hts _ hw_L_moon_a92a6b) (va_Nw.use (by decide) (hE.2.1 _ (by decide))) g1 g2 g3 ?_
      refine lv_astore (lv' := [(4, .ref q9), (0, .ref h), (1, .int (iz d)), (2, .int (iz k)), (3, .ref ou)]) hX_ hB_ dL_moon_17 hl (by decide) rfl (fun ls hl => ?_)
      refine zk_iconst hX_ hB_ dL_moon_19 ?_
      exact fin_i (wf := (fun k2 : Int => [(h, .inr (6, [.ref bA, .ref stA, .ref rd_, .ref fi, .ref ne, .ref ks, .int (iz tc), .int (iz sc)])), (bA, .inl (G.2 0, 10, .inl (av bs))), (ou, .inl (G.2 2, 1, .inr (.inl (rv ov))))])) 2 F rfl hP hD hK hS (by decide) (by decide) dL_moon_20 (by exact ⟨rfl, fun q_ => absurd q_ (by rw [hq0]; decide), fun _ => rfl⟩)
  obtain ⟨rfl, hw_5⟩ := hw
  have hP := hP.sub (ws' := [(h, .inr (6, [.ref bA, .ref stA, .ref rd_, .ref fi, .ref ne, .ref ks, .int (iz tc), .int (iz sc)])), (bA, .inl (G.2 0, 10, .inl (av bs))), (ou, .inl (G.2 2, 1, .inr (.inl (rv ov))))]) [1, 2, 0] rfl
  have hD := hD.sub (ws' := [(h, .inr (6, [.ref bA, .ref stA, .ref rd_, .ref fi, .ref ne, .ref ks, .int (iz tc), .int (iz sc)])), (bA, .inl (G.2 0, 10, .inl (av bs))), (ou, .inl (G.2 2, 1, .inr (.inl (rv ov))))]) [1, 2, 0] (by decide) rfl
  rcases hx9 with q | q; exact absurd (hw_5.1.symm.trans q) (by decide); exact absurd hw_5.2 q.2

theorem mdv_X8_many : yX8_many.cls = RX8 ∧ yX8_many.cls ≠ "java/lang/invoke/MethodHandle" ∧ yX8_many.cls ≠ "java/lang/invoke/VarHandle" ∧ (parseMethodDescriptor yX8_many.desc).map (fun d => d.parameters.length) = some 1 := by decide +kernel
set_option maxHeartbeats 4000000 in
set_option maxRecDepth 100000 in
theorem c_L_many_ok (l : Launch) (G : GG) (hl0 : l.stackTraces = false) (ga : Nat → Nat) (h : Nat) (bA : Nat) (stA : Nat) (rd_ : Nat) (fi : Nat) (nt : Nat) (ks : Nat) (tc : Int) (sc : Int) (sa : Int → Option Nat) (sd : Int → Nat) (Ls : Int → List Int) (mn : Int → Int) (x : Int) (ou : Nat) (ov : Int → Int64) (hsc : 0 ≤ sc ∧ sc ≤ 30) (hsa : ∀ j : Int, 0 ≤ j → j < sc → ∃ y, sa j = some y) (hx0 : R31 x) (hV9 : (0 ≤ x ∧ x < sc)) : Ci l yL_many wsL_many ({ frames := 8, cells := 1, slots := 6, locals := 133 }) G (And2 (And2 (ThE ga) (StoE sa sd Ls mn)) CtE) [.ref h, .int (iz x), .ref ou] [(h, .inr (6, [.ref bA, .ref stA, .ref rd_, .ref fi, .ref nt, .ref ks, .int (iz tc), .int (iz sc)])), (stA, .inl (G.2 4, 30, .inr (.inr (.inr (.inr (rv sa)))))), (ou, .inl (G.2 2, 1, .inr (.inl (rv ov))))] 1 6 (fun _ : Unit => [(h, .inr (6, [.ref bA, .ref stA, .ref rd_, .ref fi, .ref nt, .ref ks, .int (iz tc), .int (iz sc)])), (stA, .inl (G.2 4, 30, .inr (.inr (.inr (.inr (rv sa)))))), (ou, .inl (G.2 2, 1, .inr (.inl (rv (us ov 0 ((iz (mn x)).toInt64))))))]) (fun (r : Int32) (_ : Unit) => (r = (iz 0)) ∧ (0 ≤ x ∧ x < sc)) := by
  refine Ciw_intro (cc := cL_many) (maxL := 4) (ret := (some .int)) (hh := [(0, 9, 12, 24)]) (by decide) rfl (Nat.le_of_ble_eq_true rfl) ?_
  intro p e s m below meth c A F htb hA hP hD hK hE ls hl
  have hX_ := F.1
  have hB_ := F.2.1
  have hts := F.2.2.2.2.2.1
  have hown := F.2.2.2.2.1
  have hml := F.2.2.2.1
  have hS : va_S A s.heap s.heap [] := va_S.rf
  have hl : lv_has ls 4 [(0, .ref h), (1, .int (iz x)), (2, .ref ou)] := hl
  refine lv_aload_n hX_ hB_ dL_many_0 rfl (lv_at hl 2 rfl) ?_
  refine zk_iconst hX_ hB_ dL_many_1 ?_
  refine lv_aload_n hX_ hB_ dL_many_2 rfl (lv_at hl 0 rfl) ?_
  refine lv_iload_n hX_ hB_ dL_many_3 rfl (lv_at hl 1 rfl) ?_
  refine xback_i (wr := [(ou, .inl (G.2 2, 1, .inr (.inl (rv ov))))]) (xrun_V (As := [.int (iz x)]) (rest := [.int (iz 0), .ref ou]) (wc := [(h, .inr (6, [.ref bA, .ref stA, .ref rd_, .ref fi, .ref nt, .ref ks, .int (iz tc), .int (iz sc)])), (stA, .inl (G.2 4, 30, .inr (.inr (.inr (.inr (rv sa))))))]) F (c_X8_many l G hl0 ga h bA stA rd_ fi nt ks tc sc sa sd Ls mn x hsc hsa hx0) (and2_ext (thE_ext ga) (stoE_ext sa sd Ls mn)) gL_many_X8_many rfl rfl rfl mdv_X8_many ⟨Nat.le_of_ble_eq_true rfl, Nat.le_of_ble_eq_true rfl⟩ (va_recv hK.1 (hP.sub (ws' := [(h, .inr (6, [.ref bA, .ref stA, .ref rd_, .ref fi, .ref nt, .ref ks, .int (iz tc), .int (iz sc)])), (stA, .inl (G.2 4, 30, .inr (.inr (.inr (.inr (rv sa))))))]) [0, 1] rfl) (ci := 6) (q0 := 0) rfl rfl) (pre_of (and2_ext (thE_ext ga) (stoE_ext sa sd Ls mn)) hK hP hD hS hA hE.1 [0, 1] (by decide) rfl _) rfl hl.1 (Nat.le_of_ble_eq_true rfl) dL_many_4 ⟨by decide, by decide⟩) hP hD hS hA [0, 1] [2] rfl rfl (by decide) (by decide) (fun En ce q9 H locs hx hP hD hS g1 g2 g3 => ?_) (fun r__ u__ H locs hw hP hD hS => ?_)
  · skip
    have hP := hP.sub (ws' := [(h, .inr (6, [.ref bA, .ref stA, .ref rd_, .ref fi, .ref nt, .ref ks, .int (iz tc), .int (iz sc)])), (stA, .inl (G.2 4, 30, .inr (.inr (.inr (.inr (rv sa)))))), (ou, .inl (G.2 2, 1, .inr (.inl (rv ov))))]) [1, 2, 0] rfl
    have hD := hD.sub (ws' := [(h, .inr (6, [.ref bA, .ref stA, .ref rd_, .ref fi, .ref nt, .ref ks, .int (iz tc), .int (iz sc)])), (stA, .inl (G.2 4, 30, .inr (.inr (.inr (.inr (rv sa)))))), (ou, .inl (G.2 2, 1, .inr (.inl (rv ov))))]) [1, 2, 0] (by decide) rfl
    exact absurd hV9 (by rcases hx with ⟨hq0, rfl⟩ <;> omega)
  obtain ⟨rfl, hw_4⟩ := hw
  have hP := hP.sub (ws' := [(h, .inr (6, [.ref bA, .ref stA, .ref rd_, .ref fi, .ref nt, .ref ks, .int (iz tc), .int (iz sc)])), (stA, .inl (G.2 4, 30, .inr (.inr (.inr (.inr (rv sa)))))), (ou, .inl (G.2 2, 1, .inr (.inl (rv ov))))]) [1, 2, 0] rfl
  have hD := hD.sub (ws' := [(h, .inr (6, [.ref bA, .ref stA, .ref rd_, .ref fi, .ref nt, .ref ks, .int (iz tc), .int (iz sc)])), (stA, .inl (G.2 4, 30, .inr (.inr (.inr (.inr (rv sa)))))), (ou, .inl (G.2 2, 1, .inr (.inl (rv ov))))]) [1, 2, 0] (by decide) rfl
  refine zk_topi (y := (iz (mn x))) rfl ?_
  refine lv_i2l hX_ hB_ dL_many_7 rfl ?_
  refine zk_last hX_ hB_ hK.1 hP hD hS 2 2 rfl rfl (by omega) (by decide) dL_many_8 (fun H locs hP hD hS => ?_)
  have hP : va_P G.1 vwCl [(h, .inr (6, [.ref bA, .ref stA, .ref rd_, .ref fi, .ref nt, .ref ks, .int (iz tc), .int (iz sc)])), (stA, .inl (G.2 4, 30, .inr (.inr (.inr (.inr (rv sa)))))), (ou, .inl (G.2 2, 1, .inr (.inl (rv (us ov 0 ((iz (mn x)).toInt64))))))] _ := hP
  have hD : va_D A [(h, .inr (6, [.ref bA, .ref stA, .ref rd_, .ref fi, .ref nt, .ref ks, .int (iz tc), .int (iz sc)])), (stA, .inl (G.2 4, 30, .inr (.inr (.inr (.inr (rv sa)))))), (ou, .inl (G.2 2, 1, .inr (.inl (rv (us ov 0 ((iz (mn x)).toInt64))))))] := hD
  refine lv_goto (tgt := 15) hX_ hB_ dL_many_9 (by decide) ?_
  refine zk_iconst hX_ hB_ dL_many_15 ?_
  exact fin_i (wf := (fun _ : Unit => [(h, .inr (6, [.ref bA, .ref stA, .ref rd_, .ref fi, .ref nt, .ref ks, .int (iz tc), .int (iz sc)])), (stA, .inl (G.2 4, 30, .inr (.inr (.inr (.inr (rv sa)))))), (ou, .inl (G.2 2, 1, .inr (.inl (rv (us ov 0 ((iz (mn x)).toInt64))))))])) () F rfl hP hD hK hS (by decide) (by decide) dL_many_16 (by exact ⟨rfl, hw_4⟩)

theorem hw_L_many_a92a6b : (.classLink RL 24 "java/lang/IndexOutOfBoundsException" : Cond) ∈ wsL_many := by decide +kernel
set_option maxHeartbeats 4000000 in
set_option maxRecDepth 100000 in
theorem c_L_many_x (l : Launch) (G : GG) (hl0 : l.stackTraces = false) (ga : Nat → Nat) (h : Nat) (bA : Nat) (stA : Nat) (rd_ : Nat) (fi : Nat) (nt : Nat) (ks : Nat) (tc : Int) (sc : Int) (sa : Int → Option Nat) (sd : Int → Nat) (Ls : Int → List Int) (mn : Int → Int) (x : Int) (ou : Nat) (ov : Int → Int64) (hsc : 0 ≤ sc ∧ sc ≤ 30) (hsa : ∀ j : Int, 0 ≤ j → j < sc → ∃ y, sa j = some y) (hx0 : R31 x) (hx9 : ((¬ (0 ≤ x ∧ x < sc)))) : Ci l yL_many wsL_many ({ frames := 8, cells := 1, slots := 6, locals := 133 }) G (And2 (And2 (ThE ga) (StoE sa sd Ls mn)) CtE) [.ref h, .int (iz x), .ref ou] [(h, .inr (6, [.ref bA, .ref stA, .ref rd_, .ref fi, .ref nt, .ref ks, .int (iz tc), .int (iz sc)])), (stA, .inl (G.2 4, 30, .inr (.inr (.inr (.inr (rv sa)))))), (ou, .inl (G.2 2, 1, .inr (.inl (rv ov))))] 1 6 (fun k2 : Int => [(h, .inr (6, [.ref bA, .ref stA, .ref rd_, .ref fi, .ref nt, .ref ks, .int (iz tc), .int (iz sc)])), (stA, .inl (G.2 4, 30, .inr (.inr (.inr (.inr (rv sa)))))), (ou, .inl (G.2 2, 1, .inr (.inl (rv ov))))]) (fun (r : Int32) (k2 : Int) => (r = (iz k2)) ∧ (¬ (0 ≤ x ∧ x < sc) → k2 = 1)) := by
  refine Ciw_intro (cc := cL_many) (maxL := 4) (ret := (some .int)) (hh := [(0, 9, 12, 24)]) (by decide) rfl (Nat.le_of_ble_eq_true rfl) ?_
  intro p e s m below meth c A F htb hA hP hD hK hE ls hl
  have hX_ := F.1
  have hB_ := F.2.1
  have hts := F.2.2.2.2.2.1
  have hown := F.2.2.2.2.1
  have hml := F.2.2.2.1
  have hS : va_S A s.heap s.heap [] := va_S.rf
  have hl : lv_has ls 4 [(0, .ref h), (1, .int (iz x)), (2, .ref ou)] := hl
  refine lv_aload_n hX_ hB_ dL_many_0 rfl (lv_at hl 2 rfl) ?_
  refine zk_iconst hX_ hB_ dL_many_1 ?_
  refine lv_aload_n hX_ hB_ dL_many_2 rfl (lv_at hl 0 rfl) ?_
  refine lv_iload_n hX_ hB_ dL_many_3 rfl (lv_at hl 1 rfl) ?_
  refine xback_i (wr := [(ou, .inl (G.2 2, 1, .inr (.inl (rv ov))))]) (xrun_V (As := [.int (iz x)]) (rest := [.int (iz 0), .ref ou]) (wc := [(h, .inr (6, [.ref bA, .ref stA, .ref rd_, .ref fi, .ref nt, .ref ks, .int (iz tc), .int (iz sc)])), (stA, .inl (G.2 4, 30, .inr (.inr (.inr (.inr (rv sa))))))]) F (c_X8_many l G hl0 ga h bA stA rd_ fi nt ks tc sc sa sd Ls mn x hsc hsa hx0) (and2_ext (thE_ext ga) (stoE_ext sa sd Ls mn)) gL_many_X8_many rfl rfl rfl mdv_X8_many ⟨Nat.le_of_ble_eq_true rfl, Nat.le_of_ble_eq_true rfl⟩ (va_recv hK.1 (hP.sub (ws' := [(h, .inr (6, [.ref bA, .ref stA, .ref rd_, .ref fi, .ref nt, .ref ks, .int (iz tc), .int (iz sc)])), (stA, .inl (G.2 4, 30, .inr (.inr (.inr (.inr (rv sa))))))]) [0, 1] rfl) (ci := 6) (q0 := 0) rfl rfl) (pre_of (and2_ext (thE_ext ga) (stoE_ext sa sd Ls mn)) hK hP hD hS hA hE.1 [0, 1] (by decide) rfl _) rfl hl.1 (Nat.le_of_ble_eq_true rfl) dL_many_4 ⟨by decide, by decide⟩) hP hD hS hA [0, 1] [2] rfl rfl (by decide) (by decide) (fun En ce q9 H locs hx hP hD hS g1 g2 g3 => ?_) (fun r__ u__ H locs hw hP hD hS => ?_)
  · skip
    have hP := hP.sub (ws' := [(h, .inr (6, [.ref bA, .ref stA, .ref rd_, .ref fi, .ref nt, .ref ks, .int (iz tc), .int (iz sc)])), (stA, .inl (G.2 4, 30, .inr (.inr (.inr (.inr (rv sa)))))), (ou, .inl (G.2 2, 1, .inr (.inl (rv ov))))]) [1, 2, 0] rfl
    have hD := hD.sub (ws' := [(h, .inr (6, [.ref bA, .ref stA, .ref rd_, .ref fi, .ref nt, .ref ks, .int (iz tc), .int (iz sc)])), (stA, .inl (G.2 4, 30, .inr (.inr (.inr (.inr (rv sa)))))), (ou, .inl (G.2 2, 1, .inr (.inl (rv ov))))]) [1, 2, 0] (by decide) rfl
    rcases hx with ⟨hq0, rfl⟩
    · skip
      skip
      refine vx_catch (own := RL) (name := "java/lang/IndexOutOfBoundsException") hown [] ⟨0, 9, 12, 24⟩ [] (by rw [htb]; rfl) (fun z hz => absurd hz List.not_mem_nil) rfl (by decide) (hts _ hw_L_many_a92a6b) (va_Nw.use (by decide) (hE.2.1 _ (by decide))) g1 g2 g3 ?_
      refine lv_astore_n (lv' := [(3, .ref q9), (0, .ref h), (1, .int (iz x)), (2, .ref ou)]) hX_ hB_ dL_many_12 rfl hl (by decide) rfl (fun ls hl => ?_)
      refine zk_iconst hX_ hB_ dL_many_13 ?_
      exact fin_i (wf := (fun k2 : Int => [(h, .inr (6, [.ref bA, .ref stA, .ref rd_, .ref fi, .ref nt, .ref ks, .int (iz tc), .int (iz sc)])), (stA, .inl (G.2 4, 30, .inr (.inr (.inr (.inr (rv sa)))))), (ou, .inl (G.2 2, 1, .inr (.inl (rv ov))))])) 1 F rfl hP hD hK hS (by decide) (by decide) dL_many_14 (by exact ⟨rfl, fun _ => rfl⟩)
  obtain ⟨rfl, hw_4⟩ := hw
  have hP := hP.sub (ws' := [(h, .inr (6, [.ref bA, .ref stA, .ref rd_, .ref fi, .ref nt, .ref ks, .int (iz tc), .int (iz sc)])), (stA, .inl (G.2 4, 30, .inr (.inr (.inr (.inr (rv sa)))))), (ou, .inl (G.2 2, 1, .inr (.inl (rv ov))))]) [1, 2, 0] rfl
  have hD := hD.sub (ws' := [(h, .inr (6, [.ref bA, .ref stA, .ref rd_, .ref fi, .ref nt, .ref ks, .int (iz tc), .int (iz sc)])), (stA, .inl (G.2 4, 30, .inr (.inr (.inr (.inr (rv sa)))))), (ou, .inl (G.2 2, 1, .inr (.inl (rv ov))))]) [1, 2, 0] (by decide) rfl
  exact absurd hx9 (by omega)

theorem mdv_X8_day : yX8_day.cls = RX8 ∧ yX8_day.cls ≠ "java/lang/invoke/MethodHandle" ∧ yX8_day.cls ≠ "java/lang/invoke/VarHandle" ∧ (parseMethodDescriptor yX8_day.desc).map (fun d => d.parameters.length) = some 2 := by decide +kernel
set_option maxHeartbeats 4000000 in
set_option maxRecDepth 100000 in
theorem c_L_day_ok (l : Launch) (G : GG) (hl0 : l.stackTraces = false) (ga : Nat → Nat) (h : Nat) (bA : Nat) (stA : Nat) (rd_ : Nat) (fi : Nat) (nt : Nat) (ks : Nat) (tc : Int) (sc : Int) (sa : Int → Option Nat) (sd : Int → Nat) (Ls : Int → List Int) (mn : Int → Int) (x : Int) (k : Int) (ou : Nat) (ov : Int → Int64) (hsc : 0 ≤ sc ∧ sc ≤ 30) (hsa : ∀ j : Int, 0 ≤ j → j < sc → ∃ y, sa j = some y) (hx0 : R31 x) (hk : R31 k) (hLn : (Ls x).length ≤ 300) (hV9 : (0 ≤ x ∧ x < sc)) : Ci l yL_day wsL_day ({ frames := 8, cells := 1, slots := 6, locals := 135 }) G (And2 (And2 (ThE ga) (StoE sa sd Ls mn)) CtE) [.ref h, .int (iz x), .int (iz k), .ref ou] [(h, .inr (6, [.ref bA, .ref stA, .ref rd_, .ref fi, .ref nt, .ref ks, .int (iz tc), .int (iz sc)])), (stA, .inl (G.2 4, 30, .inr (.inr (.inr (.inr (rv sa)))))), (ou, .inl (G.2 2, 1, .inr (.inl (rv ov))))] 1 6 (fun _ : Unit => [(h, .inr (6, [.ref bA, .ref stA, .ref rd_, .ref fi, .ref nt, .ref ks, .int (iz tc), .int (iz sc)])), (stA, .inl (G.2 4, 30, .inr (.inr (.inr (.inr (rv sa)))))), (ou, .inl (G.2 2, 1, .inr (.inl (rv (us ov 0 ((iz (if 0 ≤ k ∧ k < (Ls x).length then (Ls x).getD k.toNat 0 else -1)).toInt64))))))]) (fun (r : Int32) (_ : Unit) => (r = (iz 0)) ∧ (0 ≤ x ∧ x < sc)) := by
  refine Ciw_intro (cc := cL_day) (maxL := 5) (ret := (some .int)) (hh := [(0, 10, 13, 24)]) (by decide) rfl (Nat.le_of_ble_eq_true rfl) ?_
  intro p e s m below meth c A F htb hA hP hD hK hE ls hl
  have hX_ := F.1
  have hB_ := F.2.1
  have hts := F.2.2.2.2.2.1
  have hown := F.2.2.2.2.1
  have hml := F.2.2.2.1
  have hS : va_S A s.heap s.heap [] := va_S.rf
  have hl : lv_has ls 5 [(0, .ref h), (1, .int (iz x)), (2, .int (iz k)), (3, .ref ou)] := hl
  refine lv_aload_n hX_ hB_ dL_day_0 rfl (lv_at hl 3 rfl) ?_
  refine zk_iconst hX_ hB_ dL_day_1 ?_
  refine lv_aload_n hX_ hB_ dL_day_2 rfl (lv_at hl 0 rfl) ?_
  refine lv_iload_n hX_ hB_ dL_day_3 rfl (lv_at hl 1 rfl) ?_
  refine lv_iload_n hX_ hB_ dL_day_4 rfl (lv_at hl 2 rfl) ?_
  refine xback_i (wr := [(ou, .inl (G.2 2, 1, .inr (.inl (rv ov))))]) (xrun_V (As := [.int (iz x), .int (iz k)]) (rest := [.int (iz 0), .ref ou]) (wc := [(h, .inr (6, [.ref bA, .ref stA, .ref rd_, .ref fi, .ref nt, .ref ks, .int (iz tc), .int (iz sc)])), (stA, .inl (G.2 4, 30, .inr (.inr (.inr (.inr (rv sa))))))]) F (c_X8_day l G hl0 ga h bA stA rd_ fi nt ks tc sc sa sd Ls mn x k hsc hsa hx0 hk hLn) (and2_ext (thE_ext ga) (stoE_ext sa sd Ls mn)) gL_day_X8_day rfl rfl rfl mdv_X8_day ⟨Nat.le_of_ble_eq_true rfl, Nat.le_of_ble_eq_true rfl⟩ (va_recv hK.1 (hP.sub (ws' := [(h, .inr (6, [.ref bA, .ref stA, .ref rd_, .ref fi, .ref nt, .ref ks, .int (iz tc), .int (iz sc)])), (stA, .inl (G.2 4, 30, .inr (.inr (.inr (.inr (rv sa))))))]) [0, 1] rfl) (ci := 6) (q0 := 0) rfl rfl) (pre_of (and2_ext (thE_ext ga) (stoE_ext sa sd Ls mn)) hK hP hD hS hA hE.1 [0, 1] (by decide) rfl _) rfl hl.1 (Nat.le_of_ble_eq_true rfl) dL_day_5 ⟨by decide, by decide⟩) hP hD hS hA [0, 1] [2] rfl rfl (by decide) (by decide) (fun En ce q9 H locs hx hP hD hS g1 g2 g3 => ?_) (fun r__ u__ H locs hw hP hD hS => ?_)
  · skip
    have hP := hP.sub (ws' := [(h, .inr (6, [.ref bA, .ref stA, .ref rd_, .ref fi, .ref nt, .ref ks, .int (iz tc), .int (iz sc)])), (stA, .inl (G.2 4, 30, .inr (.inr (.inr (.inr (rv sa)))))), (ou, .inl (G.2 2, 1, .inr (.inl (rv ov))))]) [1, 2, 0] rfl
    have hD := hD.sub (ws' := [(h, .inr (6, [.ref bA, .ref stA, .ref rd_, .ref fi, .ref nt, .ref ks, .int (iz tc), .int (iz sc)])), (stA, .inl (G.2 4, 30, .inr (.inr (.inr (.inr (rv sa)))))), (ou, .inl (G.2 2, 1, .inr (.inl (rv ov))))]) [1, 2, 0] (by decide) rfl
    exact absurd hV9 (by rcases hx with ⟨hq0, rfl⟩ <;> omega)
  obtain ⟨rfl, hw_5⟩ := hw
  have hP := hP.sub (ws' := [(h, .inr (6, [.ref bA, .ref stA, .ref rd_, .ref fi, .ref nt, .ref ks, .int (iz tc), .int (iz sc)])), (stA, .inl (G.2 4, 30, .inr (.inr (.inr (.inr (rv sa)))))), (ou, .inl (G.2 2, 1, .inr (.inl (rv ov))))]) [1, 2, 0] rfl
  have hD := hD.sub (ws' := [(h, .inr (6, [.ref bA, .ref stA, .ref rd_, .ref fi, .ref nt, .ref ks, .int (iz tc), .int (iz sc)])), (stA, .inl (G.2 4, 30, .inr (.inr (.inr (.inr (rv sa)))))), (ou, .inl (G.2 2, 1, .inr (.inl (rv ov))))]) [1, 2, 0] (by decide) rfl
  refine zk_topi (y := (iz (if 0 ≤ k ∧ k < (Ls x).length then (Ls x).getD k.toNat 0 else -1))) rfl ?_
  refine lv_i2l hX_ hB_ dL_day_8 rfl ?_
  refine zk_last hX_ hB_ hK.1 hP hD hS 2 2 rfl rfl (by omega) (by decide) dL_day_9 (fun H locs hP hD hS => ?_)
  have hP : va_P G.1 vwCl [(h, .inr (6, [.ref bA, .ref stA, .ref rd_, .ref fi, .ref nt, .ref ks, .int (iz tc), .int (iz sc)])), (stA, .inl (G.2 4, 30, .inr (.inr (.inr (.inr (rv sa)))))), (ou, .inl (G.2 2, 1, .inr (.inl (rv (us ov 0 ((iz (if 0 ≤ k ∧ k < (Ls x).length then (Ls x).getD k.toNat 0 else -1)).toInt64))))))] _ := hP
  have hD : va_D A [(h, .inr (6, [.ref bA, .ref stA, .ref rd_, .ref fi, .ref nt, .ref ks, .int (iz tc), .int (iz sc)])), (stA, .inl (G.2 4, 30, .inr (.inr (.inr (.inr (rv sa)))))), (ou, .inl (G.2 2, 1, .inr (.inl (rv (us ov 0 ((iz (if 0 ≤ k ∧ k < (Ls x).length then (Ls x).getD k.toNat 0 else -1)).toInt64))))))] := hD
  refine lv_goto (tgt := 17) hX_ hB_ dL_day_10 (by decide) ?_
  refine zk_iconst hX_ hB_ dL_day_17 ?_
  exact fin_i (wf := (fun _ : Unit => [(h, .inr (6, [.ref bA, .ref stA, .ref rd_, .ref fi, .ref nt, .ref ks, .int (iz tc), .int (iz sc)])), (stA, .inl (G.2 4, 30, .inr (.inr (.inr (.inr (rv sa)))))), (ou, .inl (G.2 2, 1, .inr (.inl (rv (us ov 0 ((iz (if 0 ≤ k ∧ k < (Ls x).length then (Ls x).getD k.toNat 0 else -1)).toInt64))))))])) () F rfl hP hD hK hS (by decide) (by decide) dL_day_18 (by exact ⟨rfl, hw_5⟩)

theorem hw_L_day_a92a6b : (.classLink RL 24 "java/lang/IndexOutOfBoundsException" : Cond) ∈ wsL_day := by decide +kernel
set_option maxHeartbeats 4000000 in
set_option maxRecDepth 100000 in
theorem c_L_day_x (l : Launch) (G : GG) (hl0 : l.stackTraces = false) (ga : Nat → Nat) (h : Nat) (bA : Nat) (stA : Nat) (rd_ : Nat) (fi : Nat) (nt : Nat) (ks : Nat) (tc : Int) (sc : Int) (sa : Int → Option Nat) (sd : Int → Nat) (Ls : Int → List Int) (mn : Int → Int) (x : Int) (k : Int) (ou : Nat) (ov : Int → Int64) (hsc : 0 ≤ sc ∧ sc ≤ 30) (hsa : ∀ j : Int, 0 ≤ j → j < sc → ∃ y, sa j = some y) (hx0 : R31 x) (hk : R31 k) (hLn : (Ls x).length ≤ 300) (hx9 : ((¬ (0 ≤ x ∧ x < sc)))) : Ci l yL_day wsL_day ({ frames := 8, cells := 1, slots := 6, locals := 135 }) G (And2 (And2 (ThE ga) (StoE sa sd Ls mn)) CtE) [.ref h, .int (iz x), .int (iz k), .ref ou] [(h, .inr (6, [.ref bA, .ref stA, .ref rd_, .ref fi, .ref nt, .ref ks, .int (iz tc), .int (iz sc)])), (stA, .inl (G.2 4, 30, .inr (.inr (.inr (.inr (rv sa)))))), (ou, .inl (G.2 2, 1, .inr (.inl (rv ov))))] 1 6 (fun k2 : Int => [(h, .inr (6, [.ref bA, .ref stA, .ref rd_, .ref fi, .ref nt, .ref ks, .int (iz tc), .int (iz sc)])), (stA, .inl (G.2 4, 30, .inr (.inr (.inr (.inr (rv sa)))))), (ou, .inl (G.2 2, 1, .inr (.inl (rv ov))))]) (fun (r : Int32) (k2 : Int) => (r = (iz k2)) ∧ (¬ (0 ≤ x ∧ x < sc) → k2 = 1)) := by
  refine Ciw_intro (cc := cL_day) (maxL := 5) (ret := (some .int)) (hh := [(0, 10, 13, 24)]) (by decide) rfl (Nat.le_of_ble_eq_true rfl) ?_
  intro p e s m below meth c A F htb hA hP hD hK hE ls hl
  have hX_ := F.1
  have hB_ := F.2.1
  have hts := F.2.2.2.2.2.1
  have hown := F.2.2.2.2.1
  have hml := F.2.2.2.1
  have hS : va_S A s.heap s.heap [] := va_S.rf
  have hl : lv_has ls 5 [(0, .ref h), (1, .int (iz x)), (2, .int (iz k)), (3, .ref ou)] := hl
  refine lv_aload_n hX_ hB_ dL_day_0 rfl (lv_at hl 3 rfl) ?_
  refine zk_iconst hX_ hB_ dL_day_1 ?_
  refine lv_aload_n hX_ hB_ dL_day_2 rfl (lv_at hl 0 rfl) ?_
  refine lv_iload_n hX_ hB_ dL_day_3 rfl (lv_at hl 1 rfl) ?_
  refine lv_iload_n hX_ hB_ dL_day_4 rfl (lv_at hl 2 rfl) ?_
  refine xback_i (wr := [(ou, .inl (G.2 2, 1, .inr (.inl (rv ov))))]) (xrun_V (As := [.int (iz x), .int (iz k)]) (rest := [.int (iz 0), .ref ou]) (wc := [(h, .inr (6, [.ref bA, .ref stA, .ref rd_, .ref fi, .ref nt, .ref ks, .int (iz tc), .int (iz sc)])), (stA, .inl (G.2 4, 30, .inr (.inr (.inr (.inr (rv sa))))))]) F (c_X8_day l G hl0 ga h bA stA rd_ fi nt ks tc sc sa sd Ls mn x k hsc hsa hx0 hk hLn) (and2_ext (thE_ext ga) (stoE_ext sa sd Ls mn)) gL_day_X8_day rfl rfl rfl mdv_X8_day ⟨Nat.le_of_ble_eq_true rfl, Nat.le_of_ble_eq_true rfl⟩ (va_recv hK.1 (hP.sub (ws' := [(h, .inr (6, [.ref bA, .ref stA, .ref rd_, .ref fi, .ref nt, .ref ks, .int (iz tc), .int (iz sc)])), (stA, .inl (G.2 4, 30, .inr (.inr (.inr (.inr (rv sa))))))]) [0, 1] rfl) (ci := 6) (q0 := 0) rfl rfl) (pre_of (and2_ext (thE_ext ga) (stoE_ext sa sd Ls mn)) hK hP hD hS hA hE.1 [0, 1] (by decide) rfl _) rfl hl.1 (Nat.le_of_ble_eq_true rfl) dL_day_5 ⟨by decide, by decide⟩) hP hD hS hA [0, 1] [2] rfl rfl (by decide) (by decide) (fun En ce q9 H locs hx hP hD hS g1 g2 g3 => ?_) (fun r__ u__ H locs hw hP hD hS => ?_)
  · skip
    have hP := hP.sub (ws' := [(h, .inr (6, [.ref bA, .ref stA, .ref rd_, .ref fi, .ref nt, .ref ks, .int (iz tc), .int (iz sc)])), (stA, .inl (G.2 4, 30, .inr (.inr (.inr (.inr (rv sa)))))), (ou, .inl (G.2 2, 1, .inr (.inl (rv ov))))]) [1, 2, 0] rfl
    have hD := hD.sub (ws' := [(h, .inr (6, [.ref bA, .ref stA, .ref rd_, .ref fi, .ref nt, .ref ks, .int (iz tc), .int (iz sc)])), (stA, .inl (G.2 4, 30, .inr (.inr (.inr (.inr (rv sa)))))), (ou, .inl (G.2 2, 1, .inr (.inl (rv ov))))]) [1, 2, 0] (by decide) rfl
    rcases hx with ⟨hq0, rfl⟩
    · skip
      skip
      refine vx_catch (own := RL) (name := "java/lang/IndexOutOfBoundsException") hown [] ⟨0, 10, 13, 24⟩ [] (by rw [htb]; rfl) (fun z hz => absurd hz List.not_mem_nil) rfl (by decide) (hts _ hw_L_day_a92a6b) (va_Nw.use (by decide) (hE.2.1 _ (by decide))) g1 g2 g3 ?_
      refine lv_astore (lv' := [(4, .ref q9), (0, .ref h), (1, .int (iz x)), (2, .int (iz k)), (3, .ref ou)]) hX_ hB_ dL_day_13 hl (by decide) rfl (fun ls hl => ?_)
      refine zk_iconst hX_ hB_ dL_day_15 ?_
      exact fin_i (wf := (fun k2 : Int => [(h, .inr (6, [.ref bA, .ref stA, .ref rd_, .ref fi, .ref nt, .ref ks, .int (iz tc), .int (iz sc)])), (stA, .inl (G.2 4, 30, .inr (.inr (.inr (.inr (rv sa)))))), (ou, .inl (G.2 2, 1, .inr (.inl (rv ov))))])) 1 F rfl hP hD hK hS (by decide) (by decide) dL_day_16 (by exact ⟨rfl, fun _ => rfl⟩)
  obtain ⟨rfl, hw_5⟩ := hw
  have hP := hP.sub (ws' := [(h, .inr (6, [.ref bA, .ref stA, .ref rd_, .ref fi, .ref nt, .ref ks, .int (iz tc), .int (iz sc)])), (stA, .inl (G.2 4, 30, .inr (.inr (.inr (.inr (rv sa)))))), (ou, .inl (G.2 2, 1, .inr (.inl (rv ov))))]) [1, 2, 0] rfl
  have hD := hD.sub (ws' := [(h, .inr (6, [.ref bA, .ref stA, .ref rd_, .ref fi, .ref nt, .ref ks, .int (iz tc), .int (iz sc)])), (stA, .inl (G.2 4, 30, .inr (.inr (.inr (.inr (rv sa)))))), (ou, .inl (G.2 2, 1, .inr (.inl (rv ov))))]) [1, 2, 0] (by decide) rfl
  exact absurd hx9 (by omega)

theorem mdv_X8_fits : yX8_fits.cls = RX8 ∧ yX8_fits.cls ≠ "java/lang/invoke/MethodHandle" ∧ yX8_fits.cls ≠ "java/lang/invoke/VarHandle" ∧ (parseMethodDescriptor yX8_fits.desc).map (fun d => d.parameters.length) = some 2 := by decide +kernel
set_option maxHeartbeats 4000000 in
set_option maxRecDepth 100000 in
theorem c_L_fits_ok (l : Launch) (G : GG) (hl0 : l.stackTraces = false) (ga : Nat → Nat) (h : Nat) (bA : Nat) (stA : Nat) (rd_ : Nat) (fi : Nat) (nt : Nat) (ks : Nat) (tc : Int) (sc : Int) (sa : Int → Option Nat) (ss : Int → Nat) (sb : Int → Int) (sts : Int → Int → Int32) (x : Int) (d : Int) (ou : Nat) (ov : Int → Int64) (hsc : 0 ≤ sc ∧ sc ≤ 30) (hsa : ∀ j : Int, 0 ≤ j → j < sc → ∃ y, sa j = some y) (hx0 : R31 x) (hd : R31 d) (hsb : ∀ j : Int, 0 ≤ j → j < sc → 0 ≤ sb j ∧ sb j < 4400) (hV9 : (0 ≤ x ∧ x < sc) ∧ isDay d = true) : Ci l yL_fits wsL_fits ({ frames := 8, cells := 2, slots := 12, locals := 135 }) G (And2 (And2 (ThE ga) (FitE sa ss sb sts)) CtE) [.ref h, .int (iz x), .int (iz d), .ref ou] [(h, .inr (6, [.ref bA, .ref stA, .ref rd_, .ref fi, .ref nt, .ref ks, .int (iz tc), .int (iz sc)])), (stA, .inl (G.2 4, 30, .inr (.inr (.inr (.inr (rv sa)))))), (ou, .inl (G.2 2, 1, .inr (.inl (rv ov))))] 2 12 (fun _ : Unit => [(h, .inr (6, [.ref bA, .ref stA, .ref rd_, .ref fi, .ref nt, .ref ks, .int (iz tc), .int (iz sc)])), (stA, .inl (G.2 4, 30, .inr (.inr (.inr (.inr (rv sa)))))), (ou, .inl (G.2 2, 1, .inr (.inl (rv (us ov 0 (lz (bz (fitS (sts x) (sb x) d))))))))]) (fun (r : Int32) (_ : Unit) => (r = (iz 0)) ∧ ((0 ≤ x ∧ x < sc) ∧ isDay d = true)) := by
  refine Ciw_intro (cc := cL_fits) (maxL := 5) (ret := (some .int)) (hh := [(0, 17, 20, 24), (0, 17, 24, 13)]) (by decide) rfl (Nat.le_of_ble_eq_true rfl) ?_
  intro p e s m below meth c A F htb hA hP hD hK hE ls hl
  have hX_ := F.1
  have hB_ := F.2.1
  have hts := F.2.2.2.2.2.1
  have hown := F.2.2.2.2.1
  have hml := F.2.2.2.1
  have hS : va_S A s.heap s.heap [] := va_S.rf
  have hl : lv_has ls 5 [(0, .ref h), (1, .int (iz x)), (2, .int (iz d)), (3, .ref ou)] := hl
  refine lv_aload_n hX_ hB_ dL_fits_0 rfl (lv_at hl 3 rfl) ?_
  refine zk_iconst hX_ hB_ dL_fits_1 ?_
  refine lv_aload_n hX_ hB_ dL_fits_2 rfl (lv_at hl 0 rfl) ?_
  refine lv_iload_n hX_ hB_ dL_fits_3 rfl (lv_at hl 1 rfl) ?_
  refine lv_iload_n hX_ hB_ dL_fits_4 rfl (lv_at hl 2 rfl) ?_
  refine xback_i (wr := [(ou, .inl (G.2 2, 1, .inr (.inl (rv ov))))]) (xrun_V (As := [.int (iz x), .int (iz d)]) (rest := [.int (iz 0), .ref ou]) (wc := [(h, .inr (6, [.ref bA, .ref stA, .ref rd_, .ref fi, .ref nt, .ref ks, .int (iz tc), .int (iz sc)])), (stA, .inl (G.2 4, 30, .inr (.inr (.inr (.inr (rv sa))))))]) F (c_X8_fits l G hl0 ga h bA stA rd_ fi nt ks tc sc sa ss sb sts x d hsc hsa hx0 hd hsb) (and2_ext (thE_ext ga) (fitE_ext sa ss sb sts)) gL_fits_X8_fits rfl rfl rfl mdv_X8_fits ⟨Nat.le_of_ble_eq_true rfl, Nat.le_of_ble_eq_true rfl⟩ (va_recv hK.1 (hP.sub (ws' := [(h, .inr (6, [.ref bA, .ref stA, .ref rd_, .ref fi, .ref nt, .ref ks, .int (iz tc), .int (iz sc)])), (stA, .inl (G.2 4, 30, .inr (.inr (.inr (.inr (rv sa))))))]) [0, 1] rfl) (ci := 6) (q0 := 0) rfl rfl) (pre_of (and2_ext (thE_ext ga) (fitE_ext sa ss sb sts)) hK hP hD hS hA hE.1 [0, 1] (by decide) rfl _) rfl hl.1 (Nat.le_of_ble_eq_true rfl) dL_fits_5 ⟨by decide, by decide⟩) hP hD hS hA [0, 1] [2] rfl rfl (by decide) (by decide) (fun En ce q9 H locs hx hP hD hS g1 g2 g3 => ?_) (fun r__ u__ H locs hw hP hD hS => ?_)
  · skip
    have hP := hP.sub (ws' := [(h, .inr (6, [.ref bA, .ref stA, .ref rd_, .ref fi, .ref nt, .ref ks, .int (iz tc), .int (iz sc)])), (stA, .inl (G.2 4, 30, .inr (.inr (.inr (.inr (rv sa)))))), (ou, .inl (G.2 2, 1, .inr (.inl (rv ov))))]) [1, 2, 0] rfl
    have hD := hD.sub (ws' := [(h, .inr (6, [.ref bA, .ref stA, .ref rd_, .ref fi, .ref nt, .ref ks, .int (iz tc), .int (iz sc)])), (stA, .inl (G.2 4, 30, .inr (.inr (.inr (.inr (rv sa)))))), (ou, .inl (G.2 2, 1, .inr (.inl (rv ov))))]) [1, 2, 0] (by decide) rfl
    exact absurd hV9 (by rcases hx with ⟨q, -⟩ | ⟨q, q2, -⟩; (exact fun z => q z.1); (rw [q2]; simp))
  obtain ⟨rfl, hw_5⟩ := hw
  have hP := hP.sub (ws' := [(h, .inr (6, [.ref bA, .ref stA, .ref rd_, .ref fi, .ref nt, .ref ks, .int (iz tc), .int (iz sc)])), (stA, .inl (G.2 4, 30, .inr (.inr (.inr (.inr (rv sa)))))), (ou, .inl (G.2 2, 1, .inr (.inl (rv ov))))]) [1, 2, 0] rfl
  have hD := hD.sub (ws' := [(h, .inr (6, [.ref bA, .ref stA, .ref rd_, .ref fi, .ref nt, .ref ks, .int (iz tc), .int (iz sc)])), (stA, .inl (G.2 4, 30, .inr (.inr (.inr (.inr (rv sa)))))), (ou, .inl (G.2 2, 1, .inr (.inl (rv ov))))]) [1, 2, 0] (by decide) rfl
  refine zk_bif_eq (tgt := 15) hX_ hB_ dL_fits_8 (by decide) (fun c_8 => ?_) (fun c_8 => ?_)
  · skip
    refine zk_lconst hX_ hB_ 0 (by decide) dL_fits_15 ?_
    refine zk_last hX_ hB_ hK.1 hP hD hS 2 2 rfl rfl (by omega) (by decide) dL_fits_16 (fun H locs hP hD hS => ?_)
    have hP : va_P G.1 vwCl [(h, .inr (6, [.ref bA, .ref stA, .ref rd_, .ref fi, .ref nt, .ref ks, .int (iz tc), .int (iz sc)])), (stA, .inl (G.2 4, 30, .inr (.inr (.inr (.inr (rv sa)))))), (ou, .inl (G.2 2, 1, .inr (.inl (rv (us ov 0 (lz 0))))))] _ := hP
    have hD : va_D A [(h, .inr (6, [.ref bA, .ref stA, .ref rd_, .ref fi, .ref nt, .ref ks, .int (iz tc), .int (iz sc)])), (stA, .inl (G.2 4, 30, .inr (.inr (.inr (.inr (rv sa)))))), (ou, .inl (G.2 2, 1, .inr (.inl (rv (us ov 0 (lz 0))))))] := hD
    refine lv_goto (tgt := 28) hX_ hB_ dL_fits_17 (by decide) ?_
    refine zk_iconst hX_ hB_ dL_fits_28 ?_
    exact fin_i (wf := (fun _ : Unit => [(h, .inr (6, [.ref bA, .ref stA, .ref rd_, .ref fi, .ref nt, .ref ks, .int (iz tc), .int (iz sc)])), (stA, .inl (G.2 4, 30, .inr (.inr (.inr (.inr (rv sa)))))), (ou, .inl (G.2 2, 1, .inr (.inl (rv (us ov 0 (lz (bz (fitS (sts x) (sb x) d))))))))])) () F rfl (by (try dsimp only); rw [show lz (bz (fitS (sts x) (sb x) d)) = lz 0 from by rw [c_8]; rfl]; exact hP) (by (try dsimp only); rw [show lz (bz (fitS (sts x) (sb x) d)) = lz 0 from by rw [c_8]; rfl]; exact hD) hK hS (by decide) (by decide) dL_fits_29 (by exact ⟨rfl, hw_5⟩)
  · skip
    refine zk_lconst hX_ hB_ 1 (by decide) dL_fits_11 ?_
    refine lv_goto (tgt := 16) hX_ hB_ dL_fits_12 (by decide) ?_
    refine zk_last hX_ hB_ hK.1 hP hD hS 2 2 rfl rfl (by omega) (by decide) dL_fits_16 (fun H locs hP hD hS => ?_)
    have hP : va_P G.1 vwCl [(h, .inr (6, [.ref bA, .ref stA, .ref rd_, .ref fi, .ref nt, .ref ks, .int (iz tc), .int (iz sc)])), (stA, .inl (G.2 4, 30, .inr (.inr (.inr (.inr (rv sa)))))), (ou, .inl (G.2 2, 1, .inr (.inl (rv (us ov 0 (lz 1))))))] _ := hP
    have hD : va_D A [(h, .inr (6, [.ref bA, .ref stA, .ref rd_, .ref fi, .ref nt, .ref ks, .int (iz tc), .int (iz sc)])), (stA, .inl (G.2 4, 30, .inr (.inr (.inr (.inr (rv sa)))))), (ou, .inl (G.2 2, 1, .inr (.inl (rv (us ov 0 (lz 1))))))] := hD
    refine lv_goto (tgt := 28) hX_ hB_ dL_fits_17 (by decide) ?_
    refine zk_iconst hX_ hB_ dL_fits_28 ?_
    exact fin_i (wf := (fun _ : Unit => [(h, .inr (6, [.ref bA, .ref stA, .ref rd_, .ref fi, .ref nt, .ref ks, .int (iz tc), .int (iz sc)])), (stA, .inl (G.2 4, 30, .inr (.inr (.inr (.inr (rv sa)))))), (ou, .inl (G.2 2, 1, .inr (.inl (rv (us ov 0 (lz (bz (fitS (sts x) (sb x) d))))))))])) () F rfl (by (try dsimp only); rw [show lz (bz (fitS (sts x) (sb x) d)) = lz 1 from by rw [c_8]; rfl]; exact hP) (by (try dsimp only); rw [show lz (bz (fitS (sts x) (sb x) d)) = lz 1 from by rw [c_8]; rfl]; exact hD) hK hS (by decide) (by decide) dL_fits_29 (by exact ⟨rfl, hw_5⟩)

theorem hw_L_fits_a92a6b : (.classLink RL 24 "java/lang/IndexOutOfBoundsException" : Cond) ∈ wsL_fits := by decide +kernel
theorem hw_L_fits_4bcdaf : (.classLink RL 13 "java/lang/IllegalArgumentException" : Cond) ∈ wsL_fits := by decide +kernel
set_option maxHeartbeats 4000000 in
set_option maxRecDepth 100000 in
theorem c_L_fits_x (l : Launch) (G : GG) (hl0 : l.stackTraces = false) (ga : Nat → Nat) (h : Nat) (bA : Nat) (stA : Nat) (rd_ : Nat) (fi : Nat) (nt : Nat) (ks : Nat) (tc : Int) (sc : Int) (sa : Int → Option Nat) (ss : Int → Nat) (sb : Int → Int) (sts : Int → Int → Int32) (x : Int) (d : Int) (ou : Nat) (ov : Int → Int64) (hsc : 0 ≤ sc ∧ sc ≤ 30) (hsa : ∀ j : Int, 0 ≤ j → j < sc → ∃ y, sa j = some y) (hx0 : R31 x) (hd : R31 d) (hsb : ∀ j : Int, 0 ≤ j → j < sc → 0 ≤ sb j ∧ sb j < 4400) (hx9 : ((¬ (0 ≤ x ∧ x < sc)) ∨ ((0 ≤ x ∧ x < sc) ∧ isDay d = false))) : Ci l yL_fits wsL_fits ({ frames := 8, cells := 2, slots := 12, locals := 135 }) G (And2 (And2 (ThE ga) (FitE sa ss sb sts)) CtE) [.ref h, .int (iz x), .int (iz d), .ref ou] [(h, .inr (6, [.ref bA, .ref stA, .ref rd_, .ref fi, .ref nt, .ref ks, .int (iz tc), .int (iz sc)])), (stA, .inl (G.2 4, 30, .inr (.inr (.inr (.inr (rv sa)))))), (ou, .inl (G.2 2, 1, .inr (.inl (rv ov))))] 2 12 (fun k2 : Int => [(h, .inr (6, [.ref bA, .ref stA, .ref rd_, .ref fi, .ref nt, .ref ks, .int (iz tc), .int (iz sc)])), (stA, .inl (G.2 4, 30, .inr (.inr (.inr (.inr (rv sa)))))), (ou, .inl (G.2 2, 1, .inr (.inl (rv ov))))]) (fun (r : Int32) (k2 : Int) => (r = (iz k2)) ∧ ((¬ (0 ≤ x ∧ x < sc) → k2 = 1) ∧ ((0 ≤ x ∧ x < sc) ∧ isDay d = false → k2 = 2))) := by
  refine Ciw_intro (cc := cL_fits) (maxL := 5) (ret := (some .int)) (hh := [(0, 17, 20, 24), (0, 17, 24, 13)]) (by decide) rfl (Nat.le_of_ble_eq_true rfl) ?_
  intro p e s m below meth c A F htb hA hP hD hK hE ls hl
  have hX_ := F.1
  have hB_ := F.2.1
  have hts := F.2.2.2.2.2.1
  have hown := F.2.2.2.2.1
  have hml := F.2.2.2.1
  have hS : va_S A s.heap s.heap [] := va_S.rf
  have hl : lv_has ls 5 [(0, .ref h), (1, .int (iz x)), (2, .int (iz d)), (3, .ref ou)] := hl
  refine lv_aload_n hX_ hB_ dL_fits_0 rfl (lv_at hl 3 rfl) ?_
  refine zk_iconst hX_ hB_ dL_fits_1 ?_
  refine lv_aload_n hX_ hB_ dL_fits_2 rfl (lv_at hl 0 rfl) ?_
  refine lv_iload_n hX_ hB_ dL_fits_3 rfl (lv_at hl 1 rfl) ?_
  refine lv_iload_n hX_ hB_ dL_fits_4 rfl (lv_at hl 2 rfl) ?_
  refine xback_i (wr := [(ou, .inl (G.2 2, 1, .inr (.inl (rv ov))))]) (xrun_V (As := [.int (iz x), .int (iz d)]) (rest := [.int (iz 0), .ref ou]) (wc := [(h, .inr (6, [.ref bA, .ref stA, .ref rd_, .ref fi, .ref nt, .ref ks, .int (iz tc), .int (iz sc)])), (stA, .inl (G.2 4, 30, .inr (.inr (.inr (.inr (rv sa))))))]) F (c_X8_fits l G hl0 ga h bA stA rd_ fi nt ks tc sc sa ss sb sts x d hsc hsa hx0 hd hsb) (and2_ext (thE_ext ga) (fitE_ext sa ss sb sts)) gL_fits_X8_fits rfl rfl rfl mdv_X8_fits ⟨Nat.le_of_ble_eq_true rfl, Nat.le_of_ble_eq_true rfl⟩ (va_recv hK.1 (hP.sub (ws' := [(h, .inr (6, [.ref bA, .ref stA, .ref rd_, .ref fi, .ref nt, .ref ks, .int (iz tc), .int (iz sc)])), (stA, .inl (G.2 4, 30, .inr (.inr (.inr (.inr (rv sa))))))]) [0, 1] rfl) (ci := 6) (q0 := 0) rfl rfl) (pre_of (and2_ext (thE_ext ga) (fitE_ext sa ss sb sts)) hK hP hD hS hA hE.1 [0, 1] (by decide) rfl _) rfl hl.1 (Nat.le_of_ble_eq_true rfl) dL_fits_5 ⟨by decide, by decide⟩) hP hD hS hA [0, 1] [2] rfl rfl (by decide) (by decide) (fun En ce q9 H locs hx hP hD hS g1 g2 g3 => ?_) (fun r__ u__ H locs hw hP hD hS => ?_)
  · skip
    have hP := hP.sub (ws' := [(h, .inr (6, [.ref bA, .ref stA, .ref rd_, .ref fi, .ref nt, .ref ks, .int (iz tc), .int (iz sc)])), (stA, .inl (G.2 4, 30, .inr (.inr (.inr (.inr (rv sa)))))), (ou, .inl (G.2 2, 1, .inr (.inl (rv ov))))]) [1, 2, 0] rfl
    have hD := hD.sub (ws' := [(h, .inr (6, [.ref bA, .ref stA, .ref rd_, .ref fi, .ref nt, .ref ks, .int (iz tc), .int (iz sc)])), (stA, .inl (G.2 4, 30, .inr (.inr (.inr (.inr (rv sa)))))), (ou, .inl (G.2 2, 1, .inr (.inl (rv ov))))]) [1, 2, 0] (by decide) rfl
    rcases hx with ⟨hq0, rfl⟩ | ⟨hq0, hq1, rfl⟩
    · skip
      skip
      refine vx_catch (own := RL) (name := "java/lang/IndexOutOfBoundsException") hown [] ⟨0, 17, 20, 24⟩ [⟨0, 17, 24, 13⟩] (by rw [htb]; rfl) (fun z hz => absurd hz List.not_mem_nil) rfl (by decide) (hts _ hw_L_fits_a92a6b) (va_Nw.use (by decide) (hE.2.1 _ (by decide))) g1 g2 g3 ?_
      refine lv_astore (lv' := [(4, .ref q9), (0, .ref h), (1, .int (iz x)), (2, .int (iz d)), (3, .ref ou)]) hX_ hB_ dL_fits_20 hl (by decide) rfl (fun ls hl => ?_)
      refine zk_iconst hX_ hB_ dL_fits_22 ?_
      exact fin_i (wf := (fun k2 : Int => [(h, .inr (6, [.ref bA, .ref stA, .ref rd_, .ref fi, .ref nt, .ref ks, .int (iz tc), .int (iz sc)])), (stA, .inl (G.2 4, 30, .inr (.inr (.inr (.inr (rv sa)))))), (ou, .inl (G.2 2, 1, .inr (.inl (rv ov))))])) 1 F rfl hP hD hK hS (by decide) (by decide) dL_fits_23 (by exact ⟨rfl, fun _ => rfl, fun q_ => absurd q_ (by exact fun z => hq0 z.1)⟩)
    · skip
      skip
      have hps : ∀ z ∈ ([⟨0, 17, 20, 24⟩] : List ExceptionTableEntry), covers z 5 = false ∨ (z.catchType ≠ 0 ∧ ∃ nm : String, (Cond.classLink RL z.catchType nm).before ([.ref h, .int (iz x), .int (iz d), .ref ou] : List Value).toArray s = true ∧ va_Nc "java/lang/IllegalArgumentException" nm s) := by
        intro z hz
        cases List.mem_singleton.mp hz
        exact Or.inr ⟨by decide, "java/lang/IndexOutOfBoundsException", (hts _ hw_L_fits_a92a6b), hE.2.2 _ (by decide) _ (by decide) (by decide)⟩
      refine vx_catch (own := RL) (name := "java/lang/IllegalArgumentException") hown [⟨0, 17, 20, 24⟩] ⟨0, 17, 24, 13⟩ [] (by rw [htb]; rfl) hps rfl (by decide) (hts _ hw_L_fits_4bcdaf) (va_Nw.use (by decide) (hE.2.1 _ (by decide))) g1 g2 g3 ?_
      refine lv_astore (lv' := [(4, .ref q9), (0, .ref h), (1, .int (iz x)), (2, .int (iz d)), (3, .ref ou)]) hX_ hB_ dL_fits_24 hl (by decide) rfl (fun ls hl => ?_)
      refine zk_iconst hX_ hB_ dL_fits_26 ?_
      exact fin_i (wf := (fun k2 : Int => [(h, .inr (6, [.ref bA, .ref stA, .ref rd_, .ref fi, .ref nt, .ref ks, .int (iz tc), .int (iz sc)])), (stA, .inl (G.2 4, 30, .inr (.inr (.inr (.inr (rv sa)))))), (ou, .inl (G.2 2, 1, .inr (.inl (rv ov))))])) 2 F rfl hP hD hK hS (by decide) (by decide) dL_fits_27 (by exact ⟨rfl, fun q_ => absurd q_ (by exact fun z => z hq0), fun _ => rfl⟩)
  obtain ⟨rfl, hw_5⟩ := hw
  have hP := hP.sub (ws' := [(h, .inr (6, [.ref bA, .ref stA, .ref rd_, .ref fi, .ref nt, .ref ks, .int (iz tc), .int (iz sc)])), (stA, .inl (G.2 4, 30, .inr (.inr (.inr (.inr (rv sa)))))), (ou, .inl (G.2 2, 1, .inr (.inl (rv ov))))]) [1, 2, 0] rfl
  have hD := hD.sub (ws' := [(h, .inr (6, [.ref bA, .ref stA, .ref rd_, .ref fi, .ref nt, .ref ks, .int (iz tc), .int (iz sc)])), (stA, .inl (G.2 4, 30, .inr (.inr (.inr (.inr (rv sa)))))), (ou, .inl (G.2 2, 1, .inr (.inl (rv ov))))]) [1, 2, 0] (by decide) rfl
  rcases hx9 with q | q; exact absurd hw_5.1 q; exact absurd (hw_5.2.symm.trans q.2) (by decide)
