
/-! what the law's walk stands on -/
section LawRun
variable {p : Program} {l : Launch} {e : Env} {R : Room} {s : State} {m : MethodId} {args : Array Value} {below : List Frame} {meth : Method} {c : Code} {H : Heap} {locs : List Loc} {cells slots : Nat} {Q : State → Prop} {cc : ByteArray} {pc : Nat} {ls : Array Slot} {A : Nat → Prop} {G : GG} {E E' : EE} {S : Type} {wf : S → va_W} {y0 : MethodName} {w0 : List Cond} {nL : Nat} {ret0 : Option FieldType}
variable {y : MethodName} {w w' : List Cond} {rm : Room} {bytes : ByteArray} {maxL mc ms n index : Nat} {ret : Option FieldType} {As rest : List Value} {b : Nat} {ws wc wr : va_W} {hh : List (Nat × Nat × Nat × Nat)}
theorem run_SW {Qc : Array Value → State → Outcome → State → Prop} (F : Fx p s m meth c y0 w0 cc nL ret0 args) (hM : Met l y w rm (va_Pc As (Pre G E wc H.size)) Qc mc ms (va_A wc H.size)) (hEx : Ext E) (hg : GoodIn w0 (va_wsS y0.cls index y w)) (hw : w = .codeWith y bytes maxL ret hh :: w') (hrc : rm.cells = mc) (hrs : rm.slots = ms)
    (hd : y.cls ≠ "java/lang/invoke/MethodHandle" ∧ y.cls ≠ "java/lang/invoke/VarHandle" ∧ (parseMethodDescriptor y.desc).map (fun d => d.parameters.length) = some n) (hR : rm.frames + 1 ≤ R.frames ∧ 8 + (maxL + 11) + rm.locals ≤ R.locals)
    (hpre : ∀ U : State, U.heap = H → s.WarmedH U.vm → va_Pc As (Pre G E wc H.size) As.toArray U)
    (hn : As.length = n) (hsize : ls.size = nL) (hW : (rest.map fun v => v.category).sum ≤ 8) (hdg : decode cc pc = .ok (.invokestatic index, 3)) (hf : cells + mc ≤ R.cells ∧ slots + ms ≤ R.slots) :
    va_Run p l e R s m args below meth c H locs cells slots mc ms (F0 m pc ls (As.reverse ++ rest)) rest (Qc As.toArray) (va_A wc H.size) :=
  vx_runSW (Ts := w0) ⟨F.1, F.2.1, F.2.2.2.1, F.2.2.2.2.1, F.2.2.2.2.2.1⟩ hM (vx_cwSW n F.2.2.2.2.2.1 hg hw hrc hrs hd hR) ⟨pre_blind hEx, hpre⟩ rfl hn hsize rfl (lv_room (m := m) (pc := pc) (ls := ls) (rest := As.reverse ++ rest) hW) hdg hf
end LawRun
section Frame
variable {l : Launch} {y : MethodName} {w : List Cond} {rm : Room} {G : GG} {E E' : EE} {av : List Value} {wc R : va_W} {mc ms : Nat} {S : Type} {wf : S → va_W}
theorem Met.fr {Pc Pc' : Array Value → State → Prop} {Qc Qc' : Array Value → State → Outcome → State → Prop} {free free' : Addr → Prop} (h : Met l y w rm Pc Qc mc ms free) (h1 : ∀ a s, Pc' a s → Pc a s) (h2 : ∀ a s o t, Pc' a s → Qc a s o t → Qc' a s o t) (h3 : ∀ q, free q → free' q) : Met l y w rm Pc' Qc' mc ms free' := by
  intro p e ha hc hk s m args below hf happ hP hK
  obtain ⟨n, o, a1, a2, a3, a4, L, a5, a6⟩ := h p e ha hc hk s m args below hf happ (h1 _ _ hP) hK
  exact ⟨n, o, a1, a2, a3, h2 _ _ _ _ hP a4, L, a5, fun q hq => h3 _ (a6 q hq)⟩
theorem app_l {k : Nat} {x : Nat × va_E} (h : wc[k]? = some x) : (wc ++ R)[k]? = some x := by
  rw [List.getElem?_append_left (List.getElem?_eq_some_iff.mp h).1]
  exact h
theorem app_r {k : Nat} {x : Nat × va_E} (h : R[k]? = some x) : (wc ++ R)[wc.length + k]? = some x := by
  rw [List.getElem?_append_right (by omega), show wc.length + k - wc.length = k from by omega]
  exact h
theorem A_l {sz q : Nat} (h : va_A wc sz q) : va_A (wc ++ R) sz q := by
  rcases h with ⟨k, e, hk⟩ | h
  · exact Or.inl ⟨k, e, app_l hk⟩
  · exact Or.inr h
theorem rng_all : (List.range wc.length).map (fun i => wc[i]?) = wc.map some := by
  apply List.ext_getElem?
  intro j
  rw [List.getElem?_map, List.getElem?_map]
  by_cases hj : j < wc.length
  · rw [List.getElem?_range hj, List.getElem?_eq_getElem hj]
    show some (wc[j]?) = _
    rw [List.getElem?_eq_getElem hj]
    rfl
  · rw [List.getElem?_eq_none (by simp; omega), List.getElem?_eq_none (by omega)]
    rfl
/-- a contract over more cells than it needs -/
theorem Ci_fr {post : Int32 → S → Prop} (h : Ci l y w rm G E av wc mc ms wf post) (hE : ∀ (sz : Nat) (U : State), Pre G E' (wc ++ R) sz U → E (va_A wc sz) U U.heap) : Ci l y w rm G E' av (wc ++ R) mc ms (fun u => wf u ++ R) post := by
  intro sz
  refine Met.fr (h sz) (fun a s hp => ?_) (fun a s o t hp hq => ?_) (fun q hq => A_l hq)
  · obtain ⟨e1, hpre⟩ := hp
    exact ⟨e1, hpre.1, fun k x hk => hpre.2.1 k x (app_l hk), hpre.2.2.1, ⟨fun i j x y hi hj e => hpre.2.2.2.1.1 i j x y (app_l hi) (app_l hj) e, fun k x hk => trivial⟩, hE sz s hpre⟩
  · obtain ⟨-, h0, hP, hK, hD, -⟩ := hp
    obtain ⟨⟨r, u, e1, e2, hP1, hK1, hD1⟩, hF⟩ := hq
    subst h0
    obtain ⟨q1, q2⟩ := va_joinQ (X := wc) (cx := wc) (wr := []) (w1 := wf u) (pl := R) (A0 := va_A (wc ++ R) s.heap.size) hP hD.self (List.range wc.length) [] rng_all rfl rfl (fun i hi => absurd hi List.not_mem_nil) hF.2 (fun q hq => A_l hq) hP1 hD1
    exact ⟨⟨r, u, e1, e2, q1, hK1, q2⟩, hF.1, fun q h1 h2 => hF.2 q h1 (fun h3 => h2 (A_l h3))⟩
theorem out_A {D : va_G} {cl : List vw_C} {H : Heap} {T : Nat → Prop} {k : Nat} {x : Nat × va_E} (hP : va_P D cl (wc ++ R) H) (hD : va_D T (wc ++ R)) (hk : R[k]? = some x) : ¬ va_A wc H.size x.1 := by
  rintro (⟨k0, e, h0⟩ | h0)
  · have := hD.1 _ _ _ _ (app_l (R := R) h0) (app_r (wc := wc) hk) rfl
    have := (List.getElem?_eq_some_iff.mp h0).1
    omega
  · have := (hP _ _ (app_r hk)).lt
    omega
end Frame
/-- the stones' cells -/
def stC (G : GG) (so ss sd : Int → Nat) (sb mm : Int → Int) (sts : Int → Int → Int32) (Ls : Int → List Int) (j : Int) : va_W := [(so j, .inr (4, [.int (iz (sb j)), .ref (ss j), .ref (sd j), .int (iz (mm j))])), (ss j, .inl (G.2 0, 11, .inl (rv (sts j)))), (sd j, .inl (G.2 0, (Ls j).length, .inl (av (fun k => (Ls j).getD k.toNat 0))))]
def stW (G : GG) (so ss sd : Int → Nat) (sb mm : Int → Int) (sts : Int → Int → Int32) (Ls : Int → List Int) : Nat → va_W
  | 0 => []
  | n + 1 => stW G so ss sd sb mm sts Ls n ++ stC G so ss sd sb mm sts Ls (n : Int)
/-- the fields of a stone are its own -/
def FnE : EE := fun _ U _ => ∀ k : Nat, k < 4 → ∃ cf kf i f, U.fieldFound? (TX6 k).1 (TX6 k).2.1 (TX6 k).2.2.1 = some (cf, kf, i, f) ∧ f.isStatic = false
theorem fnE_ext : Ext FnE := ⟨fun A u U H hv h k hk => by
    obtain ⟨cf, kf, i, f, h1, h2⟩ := h k hk
    obtain ⟨k', hi', -⟩ := State.fieldFound?_setVm hv.alike h1
    exact ⟨cf, k', i, f, hi', h2⟩, fun A U H H1 hq h => h, fun A B U H hq h => h⟩
section Stones
variable {G : GG} {so ss sd : Int → Nat} {sb mm : Int → Int} {sts : Int → Int → Int32} {Ls : Int → List Int} {U : State} {wc R : va_W} {A : Nat → Prop}
theorem stW_mem : ∀ {n : Nat} {j : Int}, 0 ≤ j → j < n → ∀ x ∈ stC G so ss sd sb mm sts Ls j, ∃ k : Nat, (stW G so ss sd sb mm sts Ls n)[k]? = some x
  | 0, j, h0, h1, x, hx => by omega
  | n + 1, j, h0, h1, x, hx => by
    by_cases q : j < n
    · obtain ⟨k, hk⟩ := stW_mem h0 q x hx
      exact ⟨k, app_l hk⟩
    · have e : j = (n : Int) := by omega
      subst e
      obtain ⟨k, hk⟩ := List.getElem?_of_mem hx
      exact ⟨_, app_r hk⟩
theorem stW_cong {so' ss' sd' : Int → Nat} {sb' mm' : Int → Int} {sts' : Int → Int → Int32} {Ls' : Int → List Int} : ∀ {n : Nat}, (∀ j : Int, 0 ≤ j → j < n → so j = so' j ∧ ss j = ss' j ∧ sd j = sd' j ∧ sb j = sb' j ∧ mm j = mm' j ∧ sts j = sts' j ∧ Ls j = Ls' j) → stW G so ss sd sb mm sts Ls n = stW G so' ss' sd' sb' mm' sts' Ls' n
  | 0, _ => rfl
  | n + 1, h => by
    unfold stW
    rw [stW_cong (n := n) (fun j h0 h1 => h j h0 (by omega))]
    obtain ⟨e1, e2, e3, e4, e5, e6, e7⟩ := h (n : Int) (by omega) (by omega)
    unfold stC
    rw [e1, e2, e3, e4, e5, e6, e7]
/-- what a stone's cells say -/
def StOne (G : GG) (so ss sd : Int → Nat) (sb mm : Int → Int) (sts : Int → Int → Int32) (Ls : Int → List Int) (j : Int) (A : Nat → Prop) (U : State) (H : Heap) : Prop := va_O "StoneDates$Stone" (so j) A U H ∧ va_OF "StoneDates$Stone" "base" "I" (.int (iz (sb j))) (so j) A U H ∧ va_OF "StoneDates$Stone" "sets" "[I" (.ref (ss j)) (so j) A U H ∧ va_OF "StoneDates$Stone" "days" "[I" (.ref (sd j)) (so j) A U H ∧ va_OF "StoneDates$Stone" "many" "I" (.int (iz (mm j))) (so j) A U H ∧ va_T .int (ss j) 11 (fun k => .int (sts j (k : Int))) A U H ∧ va_T .int (sd j) (Ls j).length (fun k => .int (iz ((Ls j).getD k 0))) A U H
theorem arrT {a n : Nat} {f : Nat → Int32} (hc : U.heap[a]? = some (vp_cell (G.2 0) (n, .inl f))) (hK : KK G U) (ha : ¬ A a) : va_T .int a n (fun k => .int (f k)) A U U.heap := by
  refine ⟨_, hc, (hK.1.2 0 (G.2 0, .int) rfl).1 n _, ?_, ?_, ?_, fun j hj => ?_, ha⟩
  · rw [vp_cell_i]; exact fun h => by cases h
  · rw [vp_cell_i, arrV_size]; exact Nat.le_refl _
  · rw [vp_cell_i, arrV_size]; (try rfl)
  · exact arrV_read _ _ hj
theorem stOne_of (hK : KK G U) (hf : FnE A U U.heap) {j : Int} (hP : ∀ x ∈ stC G so ss sd sb mm sts Ls j, va_at G.1 vwCl x U.heap ∧ ¬ A x.1) : StOne G so ss sd sb mm sts Ls j A U U.heap := by
  obtain ⟨h0, a0⟩ := hP _ (List.mem_cons_self)
  obtain ⟨h1, a1⟩ := hP _ (List.mem_cons_of_mem _ List.mem_cons_self)
  obtain ⟨h2, a2⟩ := hP _ (List.mem_cons_of_mem _ (List.mem_cons_of_mem _ List.mem_cons_self))
  obtain ⟨r, hr, cell, g1, g2, g3, g4⟩ := h0
  have er : (RX6, TX6, 4) = r := Option.some.inj hr
  subst er
  have hkn := hK.1.1 4 (RX6, TX6, 4) rfl
  have fld : ∀ k : Nat, k < 4 → va_OF (TX6 k).1 (TX6 k).2.1 (TX6 k).2.2.1 (vp_V [.int (iz (sb j)), .ref (ss j), .ref (sd j), .int (iz (mm j))] k) (so j) A U U.heap := by
    intro k hk
    obtain ⟨cf, kf, i, f, f1, f2⟩ := hf k hk
    obtain ⟨cf', kf', i', f', f1', f2'⟩ := hkn.1 k hk
    cases Option.some.inj (f1.symm.trans f1')
    exact ⟨cf, kf, i, f, cell, f1, f2, g1, (by rw [g3]; exact fun h => (by cases h)), (by rw [f2']; exact g4 k hk), a0⟩
  exact ⟨⟨cell, g1, by rw [g3]; rfl, by rw [g2]; exact hkn.2.1, a0⟩, fld 0 (by decide), fld 1 (by decide), fld 2 (by decide), fld 3 (by decide), arrT h1 hK a1, arrT h2 hK a2⟩
theorem stAll {n sz : Nat} (hz : U.heap.size = sz) (hP : va_P G.1 vwCl (wc ++ R) U.heap) {T : Nat → Prop} (hD : va_D T (wc ++ R)) (hK : KK G U) (hf : FnE (va_A wc sz) U U.heap) (hR : ∀ (x : Nat × va_E) (k : Nat), (stW G so ss sd sb mm sts Ls n)[k]? = some x → ∃ k' : Nat, R[k']? = some x) : ∀ j : Int, 0 ≤ j → j < n → StOne G so ss sd sb mm sts Ls j (va_A wc sz) U U.heap := by
  intro j h0 h1
  refine stOne_of hK hf (fun x hx => ?_)
  obtain ⟨k, hk⟩ := stW_mem h0 h1 x hx
  obtain ⟨k', hk'⟩ := hR x k hk
  subst hz
  exact ⟨hP _ _ (app_r hk'), out_A hP hD hk'⟩
theorem stoE_of {sa : Int → Option Nat} {n : Int} {H : Heap} (h : ∀ j : Int, 0 ≤ j → j < n → StOne G so ss sd sb mm sts Ls j A U H) (hsa : ∀ j : Int, 0 ≤ j → j < 30 → ∀ x, sa j = some x → j < n ∧ x = so j) : StoE sa sd Ls mm A U H := by
  intro k k0 k1 x hx
  obtain ⟨q1, rfl⟩ := hsa k k0 k1 x hx
  have q := h k k0 q1
  exact ⟨q.2.2.2.2.1, q.2.2.2.1, q.2.2.2.2.2.2⟩
theorem netE_of {mb : Int → Option Nat} {n : Int} {H : Heap} (h : ∀ j : Int, 0 ≤ j → j < n → StOne G so ss sd sb mm sts Ls j A U H) (hsa : ∀ j : Int, 0 ≤ j → j < 30 → ∀ x, mb j = some x → j < n ∧ x = so j) : NetE mb sd Ls A U H := by
  intro k k0 k1 x hx
  obtain ⟨q1, rfl⟩ := hsa k k0 k1 x hx
  have q := h k k0 q1
  exact ⟨q.2.2.2.1, q.2.2.2.2.2.2⟩
theorem fitE_of {sa : Int → Option Nat} {n : Int} {H : Heap} (h : ∀ j : Int, 0 ≤ j → j < n → StOne G so ss sd sb mm sts Ls j A U H) (hsa : ∀ j : Int, 0 ≤ j → j < 30 → ∀ x, sa j = some x → j < n ∧ x = so j) : FitE sa ss sb sts A U H := by
  intro k k0 k1 x hx
  obtain ⟨q1, rfl⟩ := hsa k k0 k1 x hx
  have q := h k k0 q1
  exact ⟨q.1, q.2.1, q.2.2.1, q.2.2.2.2.2.1⟩
end Stones
section Script
variable {p : Program} {l : Launch} {e : Env} {R : Room} {s : State} {m : MethodId} {args : Array Value} {below : List Frame} {meth : Method} {c : Code} {H : Heap} {locs : List Loc} {cells slots : Nat} {Q : State → Prop} {cc : ByteArray} {pc : Nat} {ls : Array Slot} {rest : List Value} {A : Nat → Prop} {H0 : Heap}
/-- the script's number at a place -/
def xv (xs : Nat → Int32) (z : Int) : Int := (xs z.toNat).toInt
theorem xv_rng (xs : Nat → Int32) (z : Int) : R31 (xv xs z) := iz_rng _
theorem zk_sld (hexec : p.tables.exec = Jvm.exec) (hb : c.code = cc) {b L : Nat} {xs : Nat → Int32} (hX : va_X b L xs s H0) (hbl : b < H0.size) (hbA : ¬ A b) (hS : va_S A H0 H locs) {z : Int} (hz : 0 ≤ z ∧ z < L) (hL : L < 2147483648) (hdg : decode cc pc = .ok (.iaload, 1))
    (kk : W p l e R s m args below meth c H locs cells slots Q (F0 m (pc + 1) ls (.int (iz (xv xs z)) :: rest))) : W p l e R s m args below meth c H locs cells slots Q (F0 m pc ls (.int (iz z) :: .ref b :: rest)) := by
  refine va_sld hexec hb hX hbl hbA hS (iz_in hz hL) hdg ?_
  rw [iz_cl ⟨hz.1, by omega⟩]
  unfold xv at kk
  rw [iz_of] at kk
  exact kk
theorem zk_slen (hexec : p.tables.exec = Jvm.exec) (hb : c.code = cc) {b L : Nat} {xs : Nat → Int32} (hX : va_X b L xs s H0) (hbl : b < H0.size) (hbA : ¬ A b) (hS : va_S A H0 H locs) (hdg : decode cc pc = .ok (.arraylength, 1))
    (kk : W p l e R s m args below meth c H locs cells slots Q (F0 m (pc + 1) ls (.int (iz (L : Int)) :: rest))) : W p l e R s m args below meth c H locs cells slots Q (F0 m pc ls (.ref b :: rest)) := va_slen hexec hb hX hbl hbA hS hdg kk
def am5 (x : Int) : Int := (iz x &&& iz 31).toInt
theorem am5_eq (x : Int) : iz x &&& iz 31 = iz (am5 x) := (iz_of _).symm
theorem am5_rng (x : Int) : 0 ≤ am5 x ∧ am5 x < 32 := by
  unfold am5
  obtain ⟨j, hj, e⟩ := pk_andE (iz x) (m := iz 31) 5 (by decide)
  rw [e, nI_toInt (by omega)]
  omega
end Script
