/-! methods that throw: what they ask of the VM beside the words; their contracts -/
def isCD : Cond → Bool
  | .castable _ _ => true
  | .declares _ => true
  | _ => false
theorem cd_warm {w : Cond} (h : isCD w = true) {u U : State} (hw : Warm u U) (hZ : va_Nw w u) : va_Nw w U := by
  rcases hw with hw | hw
  · cases w <;> first | exact va_Nw.warmC hw hZ | exact va_Nw.warmD hw hZ | (exact absurd h Bool.false_ne_true)
  · cases w <;> first | exact va_Nw.same rfl hw hZ | (exact absurd h Bool.false_ne_true)
def bad3 : List (Nat × String) := [(58, "java/lang/IllegalArgumentException"), (65, "java/lang/IllegalStateException"), (208, "java/lang/IndexOutOfBoundsException")]
def supN : List String := ["java/lang/RuntimeException", "java/lang/Exception"]
def thW : List Cond := bad3.flatMap fun q => (vx_atS RX8 q.1 q.2 supN).filter (fun w => !goodWord w)
theorem thW_ok : ∀ w ∈ thW, isCD w = true ∧ w.onTables = true := by decide +kernel
theorem thW_in : ∀ q ∈ bad3, ∀ w ∈ (vx_atS RX8 q.1 q.2 supN).filter (fun w => !goodWord w), w ∈ thW := fun q hq w hw => List.mem_flatMap.mpr ⟨q, hq, hw⟩
def thT : List (Nat × String) := [(56, "no such base"), (63, "there are 10 towns"), (202, "no such day"), (70, "no such sign"), (206, "no such town"), (91, "the tape has not so many bytes"), (93, "there are 30 stones"), (209, "no such stone"), (147, "no such distance"), (150, "there are 12 distances"), (173, "no such day of the other count"), (177, "the stone is not sure"), (211, "no such nearness"), (213, "nothing to agree with")]
/-- what a throw of StoneDates needs: two statics of Throwable, some words, the texts -/
def ThE (ga : Nat → Nat) : EE := fun A U H => vx_Zq Bundle.tN "UNASSIGNED_STACK" Bundle.steD A U H ∧ vx_Zq Bundle.tN "SUPPRESSED_SENTINEL" Bundle.listD A U H ∧ (∀ w ∈ thW, va_Nw w U) ∧ ∀ q ∈ thT, vk_R RX8 q.1 q.2 (ga q.1) U
theorem thE_ext (ga : Nat → Nat) : Ext (ThE ga) :=
  ⟨fun A u U H hv h => ⟨vx_Zq.moved hv.alike h.1, vx_Zq.moved hv.alike h.2.1, fun w hw => cd_warm (thW_ok w hw).1 hv (h.2.2.1 w hw), fun q hq => hv.elim (fun hw => vk_R.warm hw (h.2.2.2 q hq)) (fun he => vk_R.same he.symm (h.2.2.2 q hq))⟩,
   fun A U H H1 hq h => ⟨h.1.kept hq, h.2.1.kept hq, h.2.2⟩, fun A B U H hq h => ⟨h.1.narrow hq, h.2.1.narrow hq, h.2.2⟩⟩
/-- contracts of methods that throw before they change anything: ok says when they don't, xp which exception -/
def Xc (l : Launch) (y : MethodName) (w : List Cond) (rm : Room) (G : GG) (E : EE) (av : List Value) (ws : va_W) (mc ms : Nat) (Qc : (Nat → Prop) → Array Value → State → Outcome → State → Prop) (xp : String → Prop) : Prop :=
  ∀ sz : Nat, vx_Met l y w rm (va_Pc av (Pre G E ws sz)) (Qc (va_A ws sz)) (vx_X (fun _ : Unit => True) (fun En _ t => xp En ∧ Pst G (va_A ws sz) ws t) (va_A ws sz)) mc ms (va_A ws sz)
abbrev Qki (G : GG) {S : Type} (wf : S → va_W) (post : Int32 → S → Prop) (A : Nat → Prop) : Array Value → State → Outcome → State → Prop := va_Qi post (fun u t => Pst G A (wf u) t) A
abbrev Qkv (G : GG) {S : Type} (wf : S → va_W) (post : S → Prop) (A : Nat → Prop) : Array Value → State → Outcome → State → Prop := va_Qv post (fun u t => Pst G A (wf u) t) A
abbrev Qkq (G : GG) {S : Type} (wf : S → va_W) (post : Option Nat → S → Prop) (A : Nat → Prop) : Array Value → State → Outcome → State → Prop := va_Qq post (fun u t => Pst G A (wf u) t) A
section XIntro
variable {l : Launch} {y : MethodName} {w w' : List Cond} {rm : Room} {G : GG} {E : EE} {av : List Value} {ws : va_W} {mc ms maxL : Nat} {cc : ByteArray} {ret : Option FieldType} {Qc : (Nat → Prop) → Array Value → State → Outcome → State → Prop} {xp : String → Prop}
theorem Xc_intro (hy : plainName y.cls = true) (hw : w = .code y cc maxL ret :: w') (hlen : (lg_sl av).length ≤ maxL)
    (body : ∀ (p : Program) (e : Env) (s : State) (m : MethodId) (below : List Frame) (meth : Method) (c : Code) (A : Nat → Prop), Fx p s m meth c y w cc maxL ret av.toArray → (∀ x ∈ c.exceptionTable.toList, False) → (∀ q, s.heap.size ≤ q → A q) → va_P G.1 vwCl ws s.heap → va_D A ws → KK G s → E A s s.heap →
      ∀ ls : Array Slot, lv_has ls maxL (lv_args 0 av) → W p l e rm s m av.toArray below meth c s.heap [] 0 0 (vx_MQ below (Qc A) (vx_X (fun _ : Unit => True) (fun En _ t => xp En ∧ Pst G A ws t) A) av.toArray s mc ms A) (F0 m 0 ls [])) :
    Xc l y w rm G E av ws mc ms Qc xp := by
  intro sz
  refine vx_ofW (cc := cc) (maxL := maxL) (ret := ret) hy hw ?_
  intro p e s m args below meth c s₁ B hml htb hv
  obtain ⟨rfl, hsz, hP, hK, hD0, hE⟩ := hv
  subst hsz
  rw [lg_entry_eq]
  exact body p e s m below meth c _ ⟨B.exec, B.bytes, B.returns, hml, findClass_of_methodNamed B.named, atoms_spec (ws := w) B.pre, B.notSynchronized, (name_of_methodNamed B.named B.method).1⟩ htb (fun q h => Or.inr h) hP hD0.self hK hE _ (lv_entry av hlen)
end XIntro
section XRows
variable {p : Program} {l : Launch} {e : Env} {R : Room} {s : State} {m : MethodId} {args : Array Value} {below : List Frame} {meth : Method} {c : Code} {H : Heap} {locs : List Loc} {cells slots mc ms : Nat} {cc : ByteArray} {pc : Nat} {ls : Array Slot} {rest : List Value} {A : Nat → Prop} {G : GG} {ws : va_W} {xp : String → Prop} {w0 : List Cond} {nL : Nat} {ret0 : Option FieldType} {y0 : MethodName} {Qc : Array Value → State → Outcome → State → Prop}
/-- a throw of StoneDates -/
theorem xthrow {ga : Nat → Nat} {ik is ic : Nat} {cls text : String} (hl : l.stackTraces = false) (F : Fx p s m meth c y0 w0 cc nL ret0 args) (hy : y0.cls = RX8) (htb : ∀ x ∈ c.exceptionTable.toList, False) (hE : ThE ga A s s.heap) (hb3 : (ic, cls) ∈ bad3) (htx : (is, text) ∈ thT)
    (hk : Cond.classLink RX8 ik cls ∈ w0) (hini : Cond.initialized cls ∈ w0) (hgw : ∀ w ∈ (vx_atS RX8 ic cls supN).filter goodWord, w ∈ w0) (hfit : Bundle.fit cls = true ∧ ∀ n ∈ supN, Bundle.fit n = true) (hot : ∀ w ∈ Cond.classLink RX8 ik cls :: Cond.initialized cls :: vx_atS RX8 ic cls supN, vx_ot w = true)
    (hP : va_P G.1 vwCl ws H) (hD : va_D A ws) (hK : KK G s) (hS : va_S A s.heap H locs) (hsize : ls.size = nL) (hxp : xp cls)
    (d0 : decode cc pc = .ok (.new ik, 3)) (d3 : decode cc (pc + 3) = .ok (.dup, 1)) (d4 : decode cc (pc + 4) = .ok (.ldc is, 2)) (d6 : decode cc (pc + 6) = .ok (.invokespecial ic, 3)) (d9 : decode cc (pc + 9) = .ok (.athrow, 1))
    (hRf : 5 < R.frames) (hRl : (rest.map fun v => v.category).sum + 82 ≤ R.locals) (hRc : cells + 1 ≤ R.cells) (hRs : slots + 6 ≤ R.slots) (hc : cells + 1 ≤ mc) (hs : slots + 6 ≤ ms) :
    W p l e R s m args below meth c H locs cells slots (vx_MQ below Qc (vx_X (fun _ : Unit => True) (fun En _ t => xp En ∧ Pst G A ws t) A) args s mc ms A) (F0 m pc ls rest) := by
  have hts := F.2.2.2.2.2.1
  have hown : s.vm.findClass RX8 = some m.cls := by rw [← hy]; exact F.2.2.2.2.1
  refine vx_throwS (own := RX8) (names := supN) F.1 F.2.1 hl hown hfit.1 hfit.2 (hts _ hk) (hts _ hini) (hE.2.2.2 _ htx) ?_ hot hE.1 hE.2.1 hS (hsize.trans F.2.2.2.1.symm) d0 d3 d4 d6 d9 (fun x hx => absurd (htb x hx) id) hRf (show (rest.map fun v => v.category).sum + (13 * (2 + 1) + 43) ≤ R.locals by omega) hRc hRs F.2.2.2.2.2.2.1 (fun t hvm hz ho => ?_) hS.2.2 hc hs
  · exact vx_hat (B := thW) (fun w hw => hts w (hgw w hw)) (fun w hw => thW_in _ hb3 w hw) (fun w hw => va_Nw.use (thW_ok w hw).2 (hE.2.2.1 w hw))
  · refine ⟨(), trivial, ⟨hxp, fun k q hk => ?_, KK.moved hvm hK, hD⟩, ⟨Nat.le_trans hS.1 hz, fun q h1 h2 => (ho q (Nat.lt_of_lt_of_le h1 hS.1)).trans (hS.2.1 q h1 h2)⟩⟩
    exact (hP k q hk).kept (ho q.1 (hP k q hk).lt)
/-- a callee has thrown: it goes on outwards -/
theorem xout {En : String} {ce : Cell} {q9 : Addr} (F : Fx p s m meth c y0 w0 cc nL ret0 args) (htb : ∀ x ∈ c.exceptionTable.toList, False) (hP : va_P G.1 vwCl ws H) (hD : va_D A ws) (hK : KK G s) (hS : va_S A s.heap H locs) (hxp : xp En) (hcell : H[q9]? = some ce) (hv : ce.vm = .none) (hcl : s.vm.findClass En = some ce.cls) (hc : cells ≤ mc) (hs : slots ≤ ms) :
    vx_W p l e R s m args below meth c H locs cells slots (vx_MQ below Qc (vx_X (fun _ : Unit => True) (fun En _ t => xp En ∧ Pst G A ws t) A) args s mc ms A) (F0 m pc ls rest) q9 :=
  vx_out (fun x hx => absurd (htb x hx) id) F.2.2.2.2.2.2.1 hcell hv hcl (fun t ht hvm => ⟨(), trivial, ⟨hxp, by rw [ht]; exact hP, KK.moved hvm hK, hD⟩, hS.F ht⟩) hS.2.2 hc hs
end XRows
section XCall
variable {p : Program} {l : Launch} {e : Env} {R : Room} {s : State} {m : MethodId} {args : Array Value} {below : List Frame} {meth : Method} {c : Code} {H : Heap} {locs : List Loc} {cells slots : Nat} {Q : State → Prop} {cc : ByteArray} {pc : Nat} {ls : Array Slot} {A : Nat → Prop} {G : GG} {E : EE} {S : Type} {wf : S → va_W} {y0 : MethodName} {w0 : List Cond} {nL : Nat} {ret0 : Option FieldType}
variable {y : MethodName} {w w' : List Cond} {rm : Room} {bytes : ByteArray} {maxL mc ms n index : Nat} {ret : Option FieldType} {As rest : List Value} {b : Nat} {ws wc wr : va_W} {xp : String → Prop}
theorem xrun_V {Qc : (Nat → Prop) → Array Value → State → Outcome → State → Prop} {Cn : String} (F : Fx p s m meth c y0 w0 cc nL ret0 args) (hM : Xc l y w rm G E (.ref b :: As) wc mc ms Qc xp) (hEx : Ext E) (hg : GoodIn w0 (wsV y0.cls index Cn y w)) (hw : w = .code y bytes maxL ret :: w') (hrc : rm.cells = mc) (hrs : rm.slots = ms)
    (hd : y.cls = Cn ∧ y.cls ≠ "java/lang/invoke/MethodHandle" ∧ y.cls ≠ "java/lang/invoke/VarHandle" ∧ (parseMethodDescriptor y.desc).map (fun d => d.parameters.length) = some n) (hR : rm.frames + 1 ≤ R.frames ∧ 8 + (maxL + 11) + rm.locals ≤ R.locals)
    (hrv : ∃ cell : Cell, H[b]? = some cell ∧ cell.vm.isStatics = false ∧ s.vm.findClass Cn = some cell.cls) (hpre : ∀ U : State, U.heap = H → s.WarmedH U.vm → va_Pc (.ref b :: As) (Pre G E wc H.size) (Value.ref b :: As).toArray U)
    (hn : As.length = n) (hsize : ls.size = nL) (hW : (rest.map fun v => v.category).sum ≤ 8) (hdg : decode cc pc = .ok (.invokevirtual index, 3)) (hf : cells + mc ≤ R.cells ∧ slots + ms ≤ R.slots) :
    vx_Run p l e R s m args below meth c H locs cells slots mc ms (F0 m pc ls (As.reverse ++ .ref b :: rest)) rest (Qc (va_A wc H.size) (Value.ref b :: As).toArray) (vx_X (fun _ : Unit => True) (fun En _ t => xp En ∧ Pst G (va_A wc H.size) wc t) (va_A wc H.size)) (va_A wc H.size) :=
  vx_runV (Ts := w0) ⟨F.1, F.2.1, F.2.2.2.1, F.2.2.2.2.1, F.2.2.2.2.2.1⟩ (hM H.size) (cwV n F.2.2.2.2.2.1 hg hw hrc hrs hd hR) ⟨pre_blind hEx, hrv, hpre⟩ rfl hn hsize rfl (lv_room (m := m) (pc := pc) (ls := ls) (rest := As.reverse ++ .ref b :: rest) hW) hdg hf
variable {st0 : List Value} {a : Array Value}
theorem xback_i {post : Int32 → S → Prop} (hr : vx_Run p l e R s m args below meth c H locs cells slots mc ms (F0 m pc ls st0) rest (Qki G wf post (va_A wc H.size) a) (vx_X (fun _ : Unit => True) (fun En _ t => xp En ∧ Pst G (va_A wc H.size) wc t) (va_A wc H.size)) (va_A wc H.size)) (hP : va_P G.1 vwCl ws H) (hD : va_D A ws) (hS : va_S A s.heap H locs) (hA : ∀ q, s.heap.size ≤ q → A q) (isC isR : List Nat) (hC : isC.map (fun i => ws[i]?) = wc.map some) (hR : isR.map (fun i => ws[i]?) = wr.map some) (hnd : va_nd isR = true) (hdis : ∀ i ∈ isR, i ∉ isC)
    (kx : ∀ (En : String) (ce : Cell) (q9 : Addr) (H1 : Heap) (locs1 : List Loc), xp En → va_P G.1 vwCl (wr ++ wc) H1 → va_D A (wr ++ wc) → va_S A s.heap H1 locs1 → H1[q9]? = some ce → ce.vm = .none → s.vm.findClass En = some ce.cls → vx_W p l e R s m args below meth c H1 locs1 (cells + mc) (slots + ms) Q (F0 m pc ls rest) q9)
    (kk : ∀ (r : Int32) (u : S) (H1 : Heap) (locs1 : List Loc), post r u → va_P G.1 vwCl (wr ++ wf u) H1 → va_D A (wr ++ wf u) → va_S A s.heap H1 locs1 → W p l e R s m args below meth c H1 locs1 (cells + mc) (slots + ms) Q (F0 m (pc + 3) ls (.int r :: rest))) : W p l e R s m args below meth c H locs cells slots Q (F0 m pc ls st0) := by
  have hFc := va_free (wc := wc) hD hS hA isC hC
  refine vx_calli hr hS (fun q _ h => hFc q h) hFc (fun q _ h => hFc q h) (fun En ce q9 u t H1 locs1 ht hvm hw hB hz1 hk1 hS1 g1 g2 g3 => ?_) (fun r u t H1 locs1 ht hvm hw hB hz1 hk1 hS1 => ?_)
  · obtain ⟨hx, hP1, hK1, hD1⟩ := hB
    rw [ht] at hP1
    obtain ⟨hP2, hD2⟩ := va_join (wr := wr) (w1 := wc) hP hD isC isR hC hR hnd hdis hk1 hFc hP1 hD1
    exact kx En ce q9 H1 locs1 hx hP2 hD2 hS1 g1 g2 g3
  · obtain ⟨hP1, hK1, hD1⟩ := hB
    rw [ht] at hP1
    obtain ⟨hP2, hD2⟩ := va_join (wr := wr) (w1 := wf u) hP hD isC isR hC hR hnd hdis hk1 hFc hP1 hD1
    exact kk r u H1 locs1 hw hP2 hD2 hS1
theorem xback_v {post : S → Prop} (hr : vx_Run p l e R s m args below meth c H locs cells slots mc ms (F0 m pc ls st0) rest (Qkv G wf post (va_A wc H.size) a) (vx_X (fun _ : Unit => True) (fun En _ t => xp En ∧ Pst G (va_A wc H.size) wc t) (va_A wc H.size)) (va_A wc H.size)) (hP : va_P G.1 vwCl ws H) (hD : va_D A ws) (hS : va_S A s.heap H locs) (hA : ∀ q, s.heap.size ≤ q → A q) (isC isR : List Nat) (hC : isC.map (fun i => ws[i]?) = wc.map some) (hR : isR.map (fun i => ws[i]?) = wr.map some) (hnd : va_nd isR = true) (hdis : ∀ i ∈ isR, i ∉ isC)
    (kx : ∀ (En : String) (ce : Cell) (q9 : Addr) (H1 : Heap) (locs1 : List Loc), xp En → va_P G.1 vwCl (wr ++ wc) H1 → va_D A (wr ++ wc) → va_S A s.heap H1 locs1 → H1[q9]? = some ce → ce.vm = .none → s.vm.findClass En = some ce.cls → vx_W p l e R s m args below meth c H1 locs1 (cells + mc) (slots + ms) Q (F0 m pc ls rest) q9)
    (kk : ∀ (u : S) (H1 : Heap) (locs1 : List Loc), post u → va_P G.1 vwCl (wr ++ wf u) H1 → va_D A (wr ++ wf u) → va_S A s.heap H1 locs1 → W p l e R s m args below meth c H1 locs1 (cells + mc) (slots + ms) Q (F0 m (pc + 3) ls (rest))) : W p l e R s m args below meth c H locs cells slots Q (F0 m pc ls st0) := by
  have hFc := va_free (wc := wc) hD hS hA isC hC
  refine vx_callv hr hS (fun q _ h => hFc q h) hFc (fun q _ h => hFc q h) (fun En ce q9 u t H1 locs1 ht hvm hw hB hz1 hk1 hS1 g1 g2 g3 => ?_) (fun u t H1 locs1 ht hvm hw hB hz1 hk1 hS1 => ?_)
  · obtain ⟨hx, hP1, hK1, hD1⟩ := hB
    rw [ht] at hP1
    obtain ⟨hP2, hD2⟩ := va_join (wr := wr) (w1 := wc) hP hD isC isR hC hR hnd hdis hk1 hFc hP1 hD1
    exact kx En ce q9 H1 locs1 hx hP2 hD2 hS1 g1 g2 g3
  · obtain ⟨hP1, hK1, hD1⟩ := hB
    rw [ht] at hP1
    obtain ⟨hP2, hD2⟩ := va_join (wr := wr) (w1 := wf u) hP hD isC isR hC hR hnd hdis hk1 hFc hP1 hD1
    exact kk u H1 locs1 hw hP2 hD2 hS1
end XCall
