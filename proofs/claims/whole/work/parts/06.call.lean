/-! contracts over worlds: one list of array classes for all; what a method asks of what it never writes (E) -/
abbrev GG : Type := va_G × (Nat → ClassId)
def tys0 (C : Nat → ClassId) : List (ClassId × FieldType) := [(C 0, .int), (C 1, .byte), (C 2, .long), (C 3, .boolean), (C 4, .object "StoneDates$Stone"), (C 5, .array .int)]
def KK (G : GG) (U : State) : Prop := va_K G.1 vwCl (tys0 G.2) U ∧ U.vm.findClass "[I" = some (G.2 0) ∧ U.vm.findClass "[B" = some (G.2 1) ∧ U.vm.findClass "[J" = some (G.2 2) ∧ U.vm.findClass "[Z" = some (G.2 3) ∧ U.vm.findClass "[LStoneDates$Stone;" = some (G.2 4) ∧ U.vm.findClass "[[I" = some (G.2 5)
theorem KK.moved {G : GG} {u U : State} (hvm : u.vm.Alike U.vm) (h : KK G u) : KK G U := by
  obtain ⟨h0, h1, h2, h3, h4, h5, h6⟩ := h
  refine ⟨va_K.moved hvm h0, ?_, ?_, ?_, ?_, ?_, ?_⟩
  all_goals (rw [hvm.findClass]; assumption)
abbrev EE : Type := (Nat → Prop) → State → Heap → Prop
def Warm (u U : State) : Prop := u.WarmedH U.vm ∨ u.vm = U.vm
theorem Warm.alike {u U : State} (h : Warm u U) : u.vm.Alike U.vm := h.elim (fun h => h.alike) (fun h => h ▸ Vm.Alike.refl u.vm)
def Ext (E : EE) : Prop := (∀ (A : Nat → Prop) (u U : State) (H : Heap), Warm u U → E A u H → E A U H) ∧ (∀ (A : Nat → Prop) (U : State) (H H1 : Heap), (∀ a : Nat, a < H.size → ¬ A a → H1[a]? = H[a]?) → E A U H → E A U H1) ∧ (∀ (A B : Nat → Prop) (U : State) (H : Heap), (∀ q, B q → A q) → E A U H → E B U H)
def E0 : EE := fun _ _ _ => True
theorem ext0 : Ext E0 := ⟨fun _ _ _ _ _ _ => trivial, fun _ _ _ _ _ _ => trivial, fun _ _ _ _ _ _ => trivial⟩
def Pre (G : GG) (E : EE) (ws : va_W) (sz : Nat) (U : State) : Prop := U.heap.size = sz ∧ va_P G.1 vwCl ws U.heap ∧ KK G U ∧ va_D (fun _ => True) ws ∧ E (va_A ws sz) U U.heap
def Pst (G : GG) (A : Nat → Prop) (ws : va_W) (t : State) : Prop := va_P G.1 vwCl ws t.heap ∧ KK G t ∧ va_D A ws
theorem pre_blind {G : GG} {E : EE} (hE : Ext E) {av : List Value} {ws : va_W} {sz : Nat} : FrameBlind (va_Pc av (Pre G E ws sz)) := by
  intro a U g mk h
  obtain ⟨h0, h1, h2, h3, h4, h5⟩ := h
  exact ⟨h0, h1, h2, KK.moved (u := U) (U := U.calling g mk a) (Vm.Alike.refl U.vm) h3, h4, hE.1 _ U (U.calling g mk a) _ (Or.inr rfl) h5⟩
/-- the contracts: an int (or a truth), a long, nothing, a reference or null -/
def Ci (l : Launch) (y : MethodName) (w : List Cond) (rm : Room) (G : GG) (E : EE) (av : List Value) (ws : va_W) (mc ms : Nat) {S : Type} (wf : S → va_W) (post : Int32 → S → Prop) : Prop :=
  ∀ sz : Nat, Met l y w rm (va_Pc av (Pre G E ws sz)) (va_Qi post (fun u t => Pst G (va_A ws sz) (wf u) t) (va_A ws sz)) mc ms (va_A ws sz)
def Cl (l : Launch) (y : MethodName) (w : List Cond) (rm : Room) (G : GG) (E : EE) (av : List Value) (ws : va_W) (mc ms : Nat) {S : Type} (wf : S → va_W) (post : Int64 → S → Prop) : Prop :=
  ∀ sz : Nat, Met l y w rm (va_Pc av (Pre G E ws sz)) (va_Ql post (fun u t => Pst G (va_A ws sz) (wf u) t) (va_A ws sz)) mc ms (va_A ws sz)
def Cv (l : Launch) (y : MethodName) (w : List Cond) (rm : Room) (G : GG) (E : EE) (av : List Value) (ws : va_W) (mc ms : Nat) {S : Type} (wf : S → va_W) (post : S → Prop) : Prop :=
  ∀ sz : Nat, Met l y w rm (va_Pc av (Pre G E ws sz)) (va_Qv post (fun u t => Pst G (va_A ws sz) (wf u) t) (va_A ws sz)) mc ms (va_A ws sz)
def Cq (l : Launch) (y : MethodName) (w : List Cond) (rm : Room) (G : GG) (E : EE) (av : List Value) (ws : va_W) (mc ms : Nat) {S : Type} (wf : S → va_W) (post : Option Nat → S → Prop) : Prop :=
  ∀ sz : Nat, Met l y w rm (va_Pc av (Pre G E ws sz)) (va_Qq post (fun u t => Pst G (va_A ws sz) (wf u) t) (va_A ws sz)) mc ms (va_A ws sz)
/-- what is fixed through a method's walk -/
def Fx (p : Program) (s : State) (m : MethodId) (meth : Method) (c : Code) (y : MethodName) (w : List Cond) (cc : ByteArray) (maxL : Nat) (ret : Option FieldType) (a : Array Value) : Prop :=
  p.tables.exec = Jvm.exec ∧ c.code = cc ∧ meth.sig.returnType = ret ∧ c.maxLocals = maxL ∧ s.vm.findClass y.cls = some m.cls ∧ (∀ q ∈ w, q.before a s = true) ∧ meth.locks = false ∧ meth.name = y.name
section Intro
variable {l : Launch} {y : MethodName} {w w' : List Cond} {rm : Room} {G : GG} {E : EE} {av : List Value} {ws : va_W} {mc ms maxL : Nat} {cc : ByteArray} {ret : Option FieldType} {Qc : (Nat → Prop) → Array Value → State → Outcome → State → Prop}
theorem met_intro (hy : plainName y.cls = true) (hw : w = .code y cc maxL ret :: w') (hlen : (lg_sl av).length ≤ maxL)
    (body : ∀ (p : Program) (e : Env) (s : State) (m : MethodId) (below : List Frame) (meth : Method) (c : Code) (A : Nat → Prop), Fx p s m meth c y w cc maxL ret av.toArray → (∀ q, s.heap.size ≤ q → A q) → va_P G.1 vwCl ws s.heap → va_D A ws → KK G s → E A s s.heap →
      ∀ ls : Array Slot, lv_has ls maxL (lv_args 0 av) → W p l e rm s m av.toArray below meth c s.heap [] 0 0 (MQ below (Qc A) av.toArray s mc ms A) (F0 m 0 ls [])) (sz : Nat) :
    Met l y w rm (va_Pc av (Pre G E ws sz)) (Qc (va_A ws sz)) mc ms (va_A ws sz) := by
  refine Met.ofW (cc := cc) (maxL := maxL) (ret := ret) hy hw ?_
  intro p e s m args below meth c s₁ B hml hv
  obtain ⟨rfl, hsz, hP, hK, hD0, hE⟩ := hv
  subst hsz
  rw [lg_entry_eq]
  exact body p e s m below meth c _ ⟨B.exec, B.bytes, B.returns, hml, findClass_of_methodNamed B.named, atoms_spec (ws := w) B.pre, B.notSynchronized, (name_of_methodNamed B.named B.method).1⟩ (fun q h => Or.inr h) hP hD0.self hK hE _ (lv_entry av hlen)
theorem Ci_intro {S : Type} {wf : S → va_W} {post : Int32 → S → Prop} (hy : plainName y.cls = true) (hw : w = .code y cc maxL ret :: w') (hlen : (lg_sl av).length ≤ maxL)
    (body : ∀ (p : Program) (e : Env) (s : State) (m : MethodId) (below : List Frame) (meth : Method) (c : Code) (A : Nat → Prop), Fx p s m meth c y w cc maxL ret av.toArray → (∀ q, s.heap.size ≤ q → A q) → va_P G.1 vwCl ws s.heap → va_D A ws → KK G s → E A s s.heap →
      ∀ ls : Array Slot, lv_has ls maxL (lv_args 0 av) → W p l e rm s m av.toArray below meth c s.heap [] 0 0 (MQ below (va_Qi post (fun u t => Pst G A (wf u) t) A) av.toArray s mc ms A) (F0 m 0 ls [])) : Ci l y w rm G E av ws mc ms wf post :=
  met_intro (Qc := fun A => va_Qi post (fun u t => Pst G A (wf u) t) A) hy hw hlen body
theorem Cl_intro {S : Type} {wf : S → va_W} {post : Int64 → S → Prop} (hy : plainName y.cls = true) (hw : w = .code y cc maxL ret :: w') (hlen : (lg_sl av).length ≤ maxL)
    (body : ∀ (p : Program) (e : Env) (s : State) (m : MethodId) (below : List Frame) (meth : Method) (c : Code) (A : Nat → Prop), Fx p s m meth c y w cc maxL ret av.toArray → (∀ q, s.heap.size ≤ q → A q) → va_P G.1 vwCl ws s.heap → va_D A ws → KK G s → E A s s.heap →
      ∀ ls : Array Slot, lv_has ls maxL (lv_args 0 av) → W p l e rm s m av.toArray below meth c s.heap [] 0 0 (MQ below (va_Ql post (fun u t => Pst G A (wf u) t) A) av.toArray s mc ms A) (F0 m 0 ls [])) : Cl l y w rm G E av ws mc ms wf post :=
  met_intro (Qc := fun A => va_Ql post (fun u t => Pst G A (wf u) t) A) hy hw hlen body
theorem Cv_intro {S : Type} {wf : S → va_W} {post : S → Prop} (hy : plainName y.cls = true) (hw : w = .code y cc maxL ret :: w') (hlen : (lg_sl av).length ≤ maxL)
    (body : ∀ (p : Program) (e : Env) (s : State) (m : MethodId) (below : List Frame) (meth : Method) (c : Code) (A : Nat → Prop), Fx p s m meth c y w cc maxL ret av.toArray → (∀ q, s.heap.size ≤ q → A q) → va_P G.1 vwCl ws s.heap → va_D A ws → KK G s → E A s s.heap →
      ∀ ls : Array Slot, lv_has ls maxL (lv_args 0 av) → W p l e rm s m av.toArray below meth c s.heap [] 0 0 (MQ below (va_Qv post (fun u t => Pst G A (wf u) t) A) av.toArray s mc ms A) (F0 m 0 ls [])) : Cv l y w rm G E av ws mc ms wf post :=
  met_intro (Qc := fun A => va_Qv post (fun u t => Pst G A (wf u) t) A) hy hw hlen body
theorem Cq_intro {S : Type} {wf : S → va_W} {post : Option Nat → S → Prop} (hy : plainName y.cls = true) (hw : w = .code y cc maxL ret :: w') (hlen : (lg_sl av).length ≤ maxL)
    (body : ∀ (p : Program) (e : Env) (s : State) (m : MethodId) (below : List Frame) (meth : Method) (c : Code) (A : Nat → Prop), Fx p s m meth c y w cc maxL ret av.toArray → (∀ q, s.heap.size ≤ q → A q) → va_P G.1 vwCl ws s.heap → va_D A ws → KK G s → E A s s.heap →
      ∀ ls : Array Slot, lv_has ls maxL (lv_args 0 av) → W p l e rm s m av.toArray below meth c s.heap [] 0 0 (MQ below (va_Qq post (fun u t => Pst G A (wf u) t) A) av.toArray s mc ms A) (F0 m 0 ls [])) : Cq l y w rm G E av ws mc ms wf post :=
  met_intro (Qc := fun A => va_Qq post (fun u t => Pst G A (wf u) t) A) hy hw hlen body
end Intro
section Fin
variable {p : Program} {l : Launch} {e : Env} {R : Room} {s : State} {m : MethodId} {args : Array Value} {below : List Frame} {meth : Method} {c : Code} {H : Heap} {locs : List Loc} {cells slots mc ms : Nat} {cc : ByteArray} {pc : Nat} {ls : Array Slot} {A : Nat → Prop} {G : GG} {S : Type} {wf : S → va_W} {y : MethodName} {w : List Cond} {maxL : Nat}
theorem fin_i {post : Int32 → S → Prop} {v : Int32} {ty : FieldType} (u : S) (F : Fx p s m meth c y w cc maxL (some ty) args) (hn : narrow ty (.int v) = .int v) (hP : va_P G.1 vwCl (wf u) H) (hD : va_D A (wf u)) (hK : KK G s) (hS : va_S A s.heap H locs) (h1 : cells ≤ mc) (h2 : slots ≤ ms) (hdg : decode cc pc = .ok (.ireturn, 1)) (hpost : post v u) :
    W p l e R s m args below meth c H locs cells slots (MQ below (va_Qi post (fun u t => Pst G A (wf u) t) A) args s mc ms A) (F0 m pc ls [.int v]) :=
  W.widen (k := mc) (n := ms) h1 h2 (W.zret (hlocks := F.2.2.2.2.2.2.1) F.1 F.2.1 F.2.2.1 hn (fun t ht hW => ⟨⟨v, u, rfl, hpost, by rw [ht]; exact hP, KK.moved hW.alike hK, hD⟩, hS.F ht⟩) hS.2.2 hdg)
theorem fin_l {post : Int64 → S → Prop} {v : Int64} (u : S) (F : Fx p s m meth c y w cc maxL (some .long) args) (hP : va_P G.1 vwCl (wf u) H) (hD : va_D A (wf u)) (hK : KK G s) (hS : va_S A s.heap H locs) (h1 : cells ≤ mc) (h2 : slots ≤ ms) (hdg : decode cc pc = .ok (.lreturn, 1)) (hpost : post v u) :
    W p l e R s m args below meth c H locs cells slots (MQ below (va_Ql post (fun u t => Pst G A (wf u) t) A) args s mc ms A) (F0 m pc ls [.long v]) :=
  W.widen (k := mc) (n := ms) h1 h2 (W.lret (hlocks := F.2.2.2.2.2.2.1) F.1 F.2.1 F.2.2.1 (fun t ht hW => ⟨⟨v, u, rfl, hpost, by rw [ht]; exact hP, KK.moved hW.alike hK, hD⟩, hS.F ht⟩) hS.2.2 hdg)
theorem fin_v {post : S → Prop} (u : S) (F : Fx p s m meth c y w cc maxL none args) (hP : va_P G.1 vwCl (wf u) H) (hD : va_D A (wf u)) (hK : KK G s) (hS : va_S A s.heap H locs) (h1 : cells ≤ mc) (h2 : slots ≤ ms) (hdg : decode cc pc = .ok (.return_, 1)) (hpost : post u) :
    W p l e R s m args below meth c H locs cells slots (MQ below (va_Qv post (fun u t => Pst G A (wf u) t) A) args s mc ms A) (F0 m pc ls []) :=
  W.widen (k := mc) (n := ms) h1 h2 (W.vret (hlocks := F.2.2.2.2.2.2.1) F.1 F.2.1 F.2.2.1 (fun t ht hW => ⟨⟨u, rfl, hpost, by rw [ht]; exact hP, KK.moved hW.alike hK, hD⟩, hS.F ht⟩) hS.2.2 hdg)
theorem fin_q {post : Option Nat → S → Prop} {r : Option Nat} {ty : FieldType} (u : S) (F : Fx p s m meth c y w cc maxL (some ty) args) (hty : (∃ n, ty = .object n) ∨ ∃ t, ty = .array t) (hP : va_P G.1 vwCl (wf u) H) (hD : va_D A (wf u)) (hK : KK G s) (hS : va_S A s.heap H locs) (h1 : cells ≤ mc) (h2 : slots ≤ ms) (hdg : decode cc pc = .ok (.areturn, 1)) (hpost : post r u) :
    W p l e R s m args below meth c H locs cells slots (MQ below (va_Qq post (fun u t => Pst G A (wf u) t) A) args s mc ms A) (F0 m pc ls [va_rf r]) :=
  W.widen (k := mc) (n := ms) h1 h2 (W.aret (hlocks := F.2.2.2.2.2.2.1) F.1 F.2.1 F.2.2.1 hty (by cases r with | none => exact Or.inl rfl | some a => exact Or.inr ⟨a, rfl⟩) (fun t ht hW => ⟨⟨r, u, rfl, hpost, by rw [ht]; exact hP, KK.moved hW.alike hK, hD⟩, hS.F ht⟩) hS.2.2 hdg)
end Fin
section Call
variable {p : Program} {l : Launch} {e : Env} {R : Room} {s : State} {m : MethodId} {args : Array Value} {below : List Frame} {meth : Method} {c : Code} {H : Heap} {locs : List Loc} {cells slots : Nat} {Q : State → Prop} {cc : ByteArray} {pc : Nat} {ls : Array Slot} {A : Nat → Prop} {G : GG} {E : EE} {S : Type} {wf : S → va_W} {y0 : MethodName} {w0 : List Cond} {nL : Nat} {ret0 : Option FieldType}
variable {y : MethodName} {w w' : List Cond} {rm : Room} {bytes : ByteArray} {maxL mc ms n index : Nat} {ret : Option FieldType} {As rest : List Value} {b : Nat} {ws wc wr : va_W}
/-- the callee's start, out of the caller's world -/
theorem pick_of {ws wc : va_W} {is : List Nat} (h : is.map (fun i => ws[i]?) = wc.map some) : is.filterMap (fun i => ws[i]?) = wc := by
  have h1 : (is.map (fun i => ws[i]?)).filterMap id = (wc.map some).filterMap id := by rw [h]
  rw [List.filterMap_map, List.filterMap_map] at h1
  have h2 : (wc.filterMap (id ∘ some)) = wc := by
    have : (id ∘ some : (Nat × va_E) → Option (Nat × va_E)) = some := rfl
    rw [this, List.filterMap_some]
  rw [h2] at h1
  exact h1
theorem pre_of (hEx : Ext E) (hK : KK G s) (hP : va_P G.1 vwCl ws H) (hD : va_D A ws) (hS : va_S A s.heap H locs) (hA : ∀ q, s.heap.size ≤ q → A q) (hE : E A s s.heap) (isC : List Nat) (hn : va_nd isC = true) (hC : isC.map (fun i => ws[i]?) = wc.map some) (av : List Value) : ∀ U : State, U.heap = H → s.WarmedH U.vm → va_Pc av (Pre G E wc H.size) av.toArray U := by
  intro U hU hW
  have hF := va_free (wc := wc) hD hS hA isC hC
  have hPc : va_P G.1 vwCl wc H := hP.sub isC (pick_of hC)
  have hDc : va_D A wc := hD.sub isC hn hC
  refine ⟨rfl, by rw [hU], by rw [hU]; exact hPc, KK.moved hW.alike hK, hDc.weaken (fun _ _ _ _ => trivial), ?_⟩
  rw [hU]
  exact hEx.1 _ s U _ (Or.inl hW) (hEx.2.2 A _ s H hF (hEx.2.1 A s s.heap H hS.2.1 hE))
theorem run_V {Qc : Array Value → State → Outcome → State → Prop} {Cn : String} (F : Fx p s m meth c y0 w0 cc nL ret0 args) (hM : Met l y w rm (va_Pc (.ref b :: As) (Pre G E wc H.size)) Qc mc ms (va_A wc H.size)) (hEx : Ext E) (hg : GoodIn w0 (wsV y0.cls index Cn y w)) (hw : w = .code y bytes maxL ret :: w') (hrc : rm.cells = mc) (hrs : rm.slots = ms)
    (hd : y.cls = Cn ∧ y.cls ≠ "java/lang/invoke/MethodHandle" ∧ y.cls ≠ "java/lang/invoke/VarHandle" ∧ (parseMethodDescriptor y.desc).map (fun d => d.parameters.length) = some n) (hR : rm.frames + 1 ≤ R.frames ∧ 8 + (maxL + 11) + rm.locals ≤ R.locals)
    (hrv : ∃ cell : Cell, H[b]? = some cell ∧ cell.vm.isStatics = false ∧ s.vm.findClass Cn = some cell.cls) (hpre : ∀ U : State, U.heap = H → s.WarmedH U.vm → va_Pc (.ref b :: As) (Pre G E wc H.size) (Value.ref b :: As).toArray U)
    (hn : As.length = n) (hsize : ls.size = nL) (hW : (rest.map fun v => v.category).sum ≤ 8) (hdg : decode cc pc = .ok (.invokevirtual index, 3)) (hf : cells + mc ≤ R.cells ∧ slots + ms ≤ R.slots) :
    va_Run p l e R s m args below meth c H locs cells slots mc ms (F0 m pc ls (As.reverse ++ .ref b :: rest)) rest (Qc (Value.ref b :: As).toArray) (va_A wc H.size) :=
  va_runV (Ts := w0) ⟨F.1, F.2.1, F.2.2.2.1, F.2.2.2.2.1, F.2.2.2.2.2.1⟩ hM (cwV n F.2.2.2.2.2.1 hg hw hrc hrs hd hR) ⟨pre_blind hEx, hrv, hpre⟩ rfl hn hsize rfl (lv_room (m := m) (pc := pc) (ls := ls) (rest := As.reverse ++ .ref b :: rest) hW) hdg hf
theorem run_S {Qc : Array Value → State → Outcome → State → Prop} (F : Fx p s m meth c y0 w0 cc nL ret0 args) (hM : Met l y w rm (va_Pc As (Pre G E wc H.size)) Qc mc ms (va_A wc H.size)) (hEx : Ext E) (hg : GoodIn w0 (va_wsS y0.cls index y w)) (hw : w = .code y bytes maxL ret :: w') (hrc : rm.cells = mc) (hrs : rm.slots = ms)
    (hd : y.cls ≠ "java/lang/invoke/MethodHandle" ∧ y.cls ≠ "java/lang/invoke/VarHandle" ∧ (parseMethodDescriptor y.desc).map (fun d => d.parameters.length) = some n) (hR : rm.frames + 1 ≤ R.frames ∧ 8 + (maxL + 11) + rm.locals ≤ R.locals)
    (hpre : ∀ U : State, U.heap = H → s.WarmedH U.vm → va_Pc As (Pre G E wc H.size) As.toArray U)
    (hn : As.length = n) (hsize : ls.size = nL) (hW : (rest.map fun v => v.category).sum ≤ 8) (hdg : decode cc pc = .ok (.invokestatic index, 3)) (hf : cells + mc ≤ R.cells ∧ slots + ms ≤ R.slots) :
    va_Run p l e R s m args below meth c H locs cells slots mc ms (F0 m pc ls (As.reverse ++ rest)) rest (Qc As.toArray) (va_A wc H.size) :=
  va_runS (Ts := w0) ⟨F.1, F.2.1, F.2.2.2.1, F.2.2.2.2.1, F.2.2.2.2.2.1⟩ hM (va_cwS n F.2.2.2.2.2.1 hg hw hrc hrs hd hR) ⟨pre_blind hEx, hpre⟩ rfl hn hsize rfl (lv_room (m := m) (pc := pc) (ls := ls) (rest := As.reverse ++ rest) hW) hdg hf
theorem run_I {Qc : Array Value → State → Outcome → State → Prop} (F : Fx p s m meth c y0 w0 cc nL ret0 args) (hM : Met l y w rm (va_Pc (.ref b :: As) (Pre G E wc H.size)) Qc mc ms (va_A wc H.size)) (hEx : Ext E) (hg : GoodIn w0 w) (hw : w = .code y bytes maxL none :: w') (hrc : rm.cells = mc) (hrs : rm.slots = ms) (hini : (Cond.initialized y.cls).before args s = true) (hl : (Cond.methodLink y0.cls index y).before args s = true) (hin : (Cond.instanceMethod y).before args s = true) (hy1 : y.name = "<init>")
    (hd : y.cls ≠ "java/lang/invoke/MethodHandle" ∧ y.cls ≠ "java/lang/invoke/VarHandle" ∧ (parseMethodDescriptor y.desc).map (fun d => d.parameters.length) = some n) (hR : rm.frames + 1 ≤ R.frames ∧ 8 + (maxL + 11) + rm.locals ≤ R.locals)
    (hpre : ∀ U : State, U.heap = H → s.WarmedH U.vm → va_Pc (.ref b :: As) (Pre G E wc H.size) (Value.ref b :: As).toArray U)
    (hn : As.length = n) (hsize : ls.size = nL) (hW : (rest.map fun v => v.category).sum ≤ 8) (hdg : decode cc pc = .ok (.invokespecial index, 3)) (hf : cells + mc ≤ R.cells ∧ slots + ms ≤ R.slots) :
    va_Run p l e R s m args below meth c H locs cells slots mc ms (F0 m pc ls (As.reverse ++ .ref b :: rest)) rest (Qc (Value.ref b :: As).toArray) (va_A wc H.size) :=
  va_runI (Ts := w0) ⟨F.1, F.2.1, F.2.2.2.1, F.2.2.2.2.1, F.2.2.2.2.2.1⟩ hM (cwI n F.2.2.2.2.2.1 hg hw hrc hrs hini hl hin hy1 hd hR) ⟨pre_blind hEx, hpre⟩ rfl hn hsize rfl (lv_room (m := m) (pc := pc) (ls := ls) (rest := As.reverse ++ .ref b :: rest) hW) hdg hf
variable {st0 : List Value} {a : Array Value}
theorem back_i {post : Int32 → S → Prop} (hr : va_Run p l e R s m args below meth c H locs cells slots mc ms (F0 m pc ls st0) rest (va_Qi post (fun u t => Pst G (va_A wc H.size) (wf u) t) (va_A wc H.size) a) (va_A wc H.size)) (hP : va_P G.1 vwCl ws H) (hD : va_D A ws) (hS : va_S A s.heap H locs) (hA : ∀ q, s.heap.size ≤ q → A q) (isC isR : List Nat) (hC : isC.map (fun i => ws[i]?) = wc.map some) (hR : isR.map (fun i => ws[i]?) = wr.map some) (hnd : va_nd isR = true) (hdis : ∀ i ∈ isR, i ∉ isC)
    (kk : ∀ (r : Int32) (u : S) (H1 : Heap) (locs1 : List Loc), post r u → va_P G.1 vwCl (wr ++ wf u) H1 → va_D A (wr ++ wf u) → va_S A s.heap H1 locs1 → W p l e R s m args below meth c H1 locs1 (cells + mc) (slots + ms) Q (F0 m (pc + 3) ls (.int r :: rest))) : W p l e R s m args below meth c H locs cells slots Q (F0 m pc ls st0) := by
  have hFc := va_free (wc := wc) hD hS hA isC hC
  refine va_calli hr hS (fun q _ h => hFc q h) hFc (fun r u t H1 locs1 ht hvm hw hB hz1 hk1 hS1 => ?_)
  obtain ⟨hP1, hK1, hD1⟩ := hB
  rw [ht] at hP1
  obtain ⟨hP2, hD2⟩ := va_join (wr := wr) (w1 := wf u) hP hD isC isR hC hR hnd hdis hk1 hFc hP1 hD1
  exact kk r u H1 locs1 hw hP2 hD2 hS1
theorem back_l {post : Int64 → S → Prop} (hr : va_Run p l e R s m args below meth c H locs cells slots mc ms (F0 m pc ls st0) rest (va_Ql post (fun u t => Pst G (va_A wc H.size) (wf u) t) (va_A wc H.size) a) (va_A wc H.size)) (hP : va_P G.1 vwCl ws H) (hD : va_D A ws) (hS : va_S A s.heap H locs) (hA : ∀ q, s.heap.size ≤ q → A q) (isC isR : List Nat) (hC : isC.map (fun i => ws[i]?) = wc.map some) (hR : isR.map (fun i => ws[i]?) = wr.map some) (hnd : va_nd isR = true) (hdis : ∀ i ∈ isR, i ∉ isC)
    (kk : ∀ (r : Int64) (u : S) (H1 : Heap) (locs1 : List Loc), post r u → va_P G.1 vwCl (wr ++ wf u) H1 → va_D A (wr ++ wf u) → va_S A s.heap H1 locs1 → W p l e R s m args below meth c H1 locs1 (cells + mc) (slots + ms) Q (F0 m (pc + 3) ls (.long r :: rest))) : W p l e R s m args below meth c H locs cells slots Q (F0 m pc ls st0) := by
  have hFc := va_free (wc := wc) hD hS hA isC hC
  refine va_calll hr hS (fun q _ h => hFc q h) hFc (fun r u t H1 locs1 ht hvm hw hB hz1 hk1 hS1 => ?_)
  obtain ⟨hP1, hK1, hD1⟩ := hB
  rw [ht] at hP1
  obtain ⟨hP2, hD2⟩ := va_join (wr := wr) (w1 := wf u) hP hD isC isR hC hR hnd hdis hk1 hFc hP1 hD1
  exact kk r u H1 locs1 hw hP2 hD2 hS1
theorem back_v {post : S → Prop} (hr : va_Run p l e R s m args below meth c H locs cells slots mc ms (F0 m pc ls st0) rest (va_Qv post (fun u t => Pst G (va_A wc H.size) (wf u) t) (va_A wc H.size) a) (va_A wc H.size)) (hP : va_P G.1 vwCl ws H) (hD : va_D A ws) (hS : va_S A s.heap H locs) (hA : ∀ q, s.heap.size ≤ q → A q) (isC isR : List Nat) (hC : isC.map (fun i => ws[i]?) = wc.map some) (hR : isR.map (fun i => ws[i]?) = wr.map some) (hnd : va_nd isR = true) (hdis : ∀ i ∈ isR, i ∉ isC)
    (kk : ∀ (u : S) (H1 : Heap) (locs1 : List Loc), post u → va_P G.1 vwCl (wr ++ wf u) H1 → va_D A (wr ++ wf u) → va_S A s.heap H1 locs1 → W p l e R s m args below meth c H1 locs1 (cells + mc) (slots + ms) Q (F0 m (pc + 3) ls (rest))) : W p l e R s m args below meth c H locs cells slots Q (F0 m pc ls st0) := by
  have hFc := va_free (wc := wc) hD hS hA isC hC
  refine va_callv hr hS (fun q _ h => hFc q h) hFc (fun u t H1 locs1 ht hvm hw hB hz1 hk1 hS1 => ?_)
  obtain ⟨hP1, hK1, hD1⟩ := hB
  rw [ht] at hP1
  obtain ⟨hP2, hD2⟩ := va_join (wr := wr) (w1 := wf u) hP hD isC isR hC hR hnd hdis hk1 hFc hP1 hD1
  exact kk u H1 locs1 hw hP2 hD2 hS1
theorem back_q {post : Option Nat → S → Prop} (hr : va_Run p l e R s m args below meth c H locs cells slots mc ms (F0 m pc ls st0) rest (va_Qq post (fun u t => Pst G (va_A wc H.size) (wf u) t) (va_A wc H.size) a) (va_A wc H.size)) (hP : va_P G.1 vwCl ws H) (hD : va_D A ws) (hS : va_S A s.heap H locs) (hA : ∀ q, s.heap.size ≤ q → A q) (isC isR : List Nat) (hC : isC.map (fun i => ws[i]?) = wc.map some) (hR : isR.map (fun i => ws[i]?) = wr.map some) (hnd : va_nd isR = true) (hdis : ∀ i ∈ isR, i ∉ isC)
    (kk : ∀ (r : Option Nat) (u : S) (H1 : Heap) (locs1 : List Loc), post r u → va_P G.1 vwCl (wr ++ wf u) H1 → va_D A (wr ++ wf u) → va_S A s.heap H1 locs1 → W p l e R s m args below meth c H1 locs1 (cells + mc) (slots + ms) Q (F0 m (pc + 3) ls (va_rf r :: rest))) : W p l e R s m args below meth c H locs cells slots Q (F0 m pc ls st0) := by
  have hFc := va_free (wc := wc) hD hS hA isC hC
  refine va_callq hr hS (fun q _ h => hFc q h) hFc (fun r u t H1 locs1 ht hvm hw hB hz1 hk1 hS1 => ?_)
  obtain ⟨hP1, hK1, hD1⟩ := hB
  rw [ht] at hP1
  obtain ⟨hP2, hD2⟩ := va_join (wr := wr) (w1 := wf u) hP hD isC isR hC hR hnd hdis hk1 hFc hP1 hD1
  exact kk r u H1 locs1 hw hP2 hD2 hS1
end Call
