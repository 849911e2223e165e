
theorem nl_SF {st : Int → Int32} {f : SS} {b : Int} (h : RSS st f) (hb : 0 ≤ b ∧ b < 4400) : fl (fitS st b) 1152000 432000 = nlF f b :=
  fl_cong (fun j hj => fitS_F h ⟨by omega, by omega⟩ hb 11 (Nat.le_refl _))
theorem m300_take (L : List Int) : (m300 L).toNat = (L.take 300).length := by
  unfold m300
  rw [List.length_take]
  exact Int.toNat_natCast _
theorem days_take {g days : Int → Int} {L : List Int} (h1 : FD days L) (h2 : ∀ j : Int, 0 ≤ j → j < m300 L → g j = days j) : ∀ k : Int, 0 ≤ k → k < ((L.take 300).length : Int) → g k = (L.take 300).getD k.toNat 0 := by
  intro k h0 hk
  have hk2 := hk
  rw [List.length_take] at hk2
  have e := h1 k.toNat (by omega) (by omega)
  rw [Int.toNat_of_nonneg h0] at e
  rw [h2 k h0 (by unfold m300; omega), e, take_getD (by omega)]
theorem tail_P {D : va_G} {cl : List vw_C} {H : Heap} {a c r t : va_W} (h : va_P D cl ((a ++ c) ++ (r ++ t)) H) : va_P D cl (a ++ (r ++ (t ++ c))) H := by
  have h2 := va_P.swap h
  rw [List.append_assoc, List.append_assoc] at h2
  exact h2
theorem tail_D {A : Nat → Prop} {a c r t : va_W} (h : va_D A ((a ++ c) ++ (r ++ t))) : va_D A (a ++ (r ++ (t ++ c))) := by
  have h2 := va_D.swap h
  rw [List.append_assoc, List.append_assoc] at h2
  exact h2
theorem stW_add {G : GG} {so ss sd : Int → Nat} {sb mm : Int → Int} {sts : Int → Int → Int32} {Ls : Int → List Int} {n : Int} (h : 0 ≤ n) (a1 a2 a3 : Nat) (b m : Int) (t : Int → Int32) (L : List Int) :
    stW G so ss sd sb mm sts Ls n.toNat ++ [(a1, .inr (4, [.int (iz b), .ref a2, .ref a3, .int (iz m)])), (a2, .inl (G.2 0, 11, .inl (rv t))), (a3, .inl (G.2 0, L.length, .inl (av (fun k => L.getD k.toNat 0))))] = stW G (us so n a1) (us ss n a2) (us sd n a3) (us sb n b) (us mm n m) (us sts n t) (us Ls n L) (n + 1).toNat := by
  rw [show (n + 1).toNat = n.toNat + 1 from by omega]
  show _ = stW G _ _ _ _ _ _ _ n.toNat ++ stC G _ _ _ _ _ _ _ ((n.toNat : Nat) : Int)
  rw [Int.toNat_of_nonneg h]
  unfold stC
  rw [us_at, us_at, us_at, us_at, us_at, us_at, us_at]
  rw [stW_cong (n := n.toNat) (so := so) (so' := us so n a1) (ss := ss) (ss' := us ss n a2) (sd := sd) (sd' := us sd n a3) (sb := sb) (sb' := us sb n b) (mm := mm) (mm' := us mm n m) (sts := sts) (sts' := us sts n t) (Ls := Ls) (Ls' := us Ls n L) (fun j h0 h1 => by
    have q : j ≠ n := by omega
    rw [us_ne q, us_ne q, us_ne q, us_ne q, us_ne q, us_ne q, us_ne q]
    exact ⟨rfl, rfl, rfl, rfl, rfl, rfl, rfl⟩)]
section New
variable {tc sc : Int} {bs : Int → Int} {sa mb : Int → Option Nat} {so : Int → Nat} {sb mm : Int → Int} {sts : Int → Int → Int32} {Ls : Int → List Int} {fs : Int → SS} {lo hi lo2 hi2 : Int → Int64} {to dy dy2 fF tT dD js : Int → Int} {size mcn few slv : Int} {wg : Nat} {M : Nat → Int → Int} {L : List Int}
theorem RML_fr {j : Int} {f : SS} (hf : FrL lo hi lo2 hi2 sc) (h1 : j < sc) (h : RML lo hi j f) : RML lo2 hi2 j f := by
  intro k k0 k1
  have e := hf (11 * j + k) (by omega)
  rw [e.1, e.2]
  exact h k k0 k1
theorem LStn_fr (h : LStn tc sc bs sa so sb mm sts Ls fs lo hi to dy) (hf : FrL lo hi lo2 hi2 sc) : LStn tc sc bs sa so sb mm sts Ls fs lo2 hi2 to dy := by
  refine ⟨h.1, fun j h0 h1 => ?_, h.2.2⟩
  obtain ⟨a1, a2, a3, a4, a5, a6, a7⟩ := h.2.1 j h0 h1
  exact ⟨a1, a2, a3, a4, a5, RML_fr hf h1 a6, a7⟩
theorem LStn_new {k : Int} {f : SS} {st2 : Int → Int32} {so9 : Nat} (h : LStn tc sc bs sa so sb mm sts Ls fs lo hi to dy) (hk : 0 ≤ k ∧ k < tc) (hb : 0 ≤ bs k ∧ bs k < 4400) (hs : sc < 30) (hr : RSS st2 f) (hf : FrL lo hi lo2 hi2 sc) (hrm : RML lo2 hi2 sc f) (hfd : FDs dy2 sc (nlF f (bs k))) (hdy : ∀ j : Int, (j < 300 * sc ∨ 300 * sc + 300 ≤ j) → dy2 j = dy j) :
    LStn tc (sc + 1) bs (us sa sc (some so9)) (us so sc so9) (us sb sc (bs k)) (us mm sc ((nlF f (bs k)).length : Int)) (us sts sc st2) (us Ls sc ((nlF f (bs k)).take 300)) (us fs sc f) lo2 hi2 (us to sc k) dy2 := by
  have h9 := h.1
  refine ⟨by omega, fun j h0 h1 => ?_, fun j hj => ?_, fun j hj => ?_⟩
  · by_cases q : j = sc
    · subst q
      rw [us_at, us_at, us_at, us_at, us_at, us_at, us_at, us_at]
      exact ⟨rfl, hk, rfl, hb, hr, hrm, rfl, rfl, hfd⟩
    · rw [us_ne q, us_ne q, us_ne q, us_ne q, us_ne q, us_ne q, us_ne q, us_ne q]
      obtain ⟨a1, a2, a3, a4, a5, a6, a7, a8, a9⟩ := h.2.1 j h0 (by omega)
      refine ⟨a1, a2, a3, a4, a5, RML_fr hf (by omega) a6, a7, a8, fun i i0 i1 => ?_⟩
      rw [hdy _ (by omega)]
      exact a9 i i0 i1
  · have q : j ≠ sc := by omega
    rw [us_ne q, us_ne q, us_ne q]
    exact h.2.2.1 j (by omega)
  · have q : j ≠ sc := by omega
    rw [us_ne q, us_ne q]
    exact h.2.2.2 j hj
theorem LSky_new {m zs naming ssn sba sbs sbm : Int} {ec mec dO : Int → Int} {nm : Int → Bool} (h : LSky sc mm dy zs naming ssn sba sbs sbm ec nm dO mec) (hdy : ∀ j : Int, (j < 300 * sc ∨ 300 * sc + 300 ≤ j) → dy2 j = dy j) : LSky (sc + 1) (us mm sc m) dy2 zs naming ssn sba sbs sbm ec nm dO mec := by
  obtain ⟨a1, a2, a3, a4, a5, a6, a7⟩ := h
  refine ⟨a1, a2, a3, a4, a5, fun j hj => ?_, a7⟩
  obtain ⟨b1, b2, b3⟩ := a6 j hj
  rw [us_ne (by omega), hdy _ (by omega)]
  exact ⟨by omega, b2, b3⟩
theorem szX_Ls {i : Int} {L2 : Int → List Int} {S : (Int → Int) → Prop} (h : RowOk mb Ls js M i S) {y : Int} (hy : Mem mb y) (he : L2 y = Ls y) : szX js L2 (M (i + 0).toNat y) = szX js Ls (M (i + 0).toNat y) ∧ dlX M L2 (M (i + 0).toNat y) = dlX M Ls (M (i + 0).toNat y) := by
  have h1 := h.1 y hy.1 hy.2.1
  by_cases q : 30 ≤ M (i + 0).toNat y
  · refine ⟨?_, ?_⟩
    · unfold szX; rw [if_pos q, if_pos q]
    · funext j; unfold dlX; rw [if_pos q, if_pos q]
  · have e := (h1.2.2 (by omega)).1
    refine ⟨?_, ?_⟩
    · unfold szX; rw [if_neg q, if_neg q, e, he]
    · funext j; unfold dlX; rw [if_neg q, if_neg q, e, he]
theorem row_Ls {i : Int} {L2 : Int → List Int} {S S2 : (Int → Int) → Prop} (h : RowOk mb Ls js M i S) (he : ∀ y, Mem mb y → L2 y = Ls y) (hS : ∀ c, S2 c ↔ S c) : RowOk mb L2 js M i S2 := by
  have hz : ∀ y, Mem mb y → _ := fun y hy => szX_Ls h hy (he y hy)
  obtain ⟨r1, r2, r3, r4, r5⟩ := h
  refine ⟨r1, fun x hx => ?_, r3, fun c => ?_, r5⟩
  · rw [(hz x hx).1, (hz x hx).2]; exact r2 x hx
  · rw [hS c, r4 c]
    refine ⟨fun q => ⟨q.1, fun x hx => ?_⟩, fun q => ⟨q.1, fun x hx => ?_⟩⟩
    · rw [(hz x hx).1, (hz x hx).2]; exact q.2 x hx
    · have := q.2 x hx
      rw [(hz x hx).1, (hz x hx).2] at this
      exact this
theorem Mem_us {x y : Int} {a : Nat} (hx : 0 ≤ x ∧ x < 30) : Mem (us mb x (some a)) y ↔ Mem mb y ∨ y = x := by
  unfold Mem us
  by_cases q : y = x
  · subst q
    rw [if_pos rfl]
    exact ⟨fun _ => Or.inr rfl, fun _ => ⟨hx.1, hx.2, rfl⟩⟩
  · rw [if_neg q]
    exact ⟨Or.inl, fun z => z.elim id (fun e => absurd e q)⟩
theorem row_new {i x : Int} {a : Nat} {S S2 : (Int → Int) → Prop} (h : RowOk mb Ls js M i S) (hx : 0 ≤ x ∧ x < 30) (hm : mb x = none) (hL : (1 ≤ L.length ∧ L.length ≤ 300) ∧ Mono (fun j => L.getD j.toNat 0) L.length) (hS : ∀ c, S2 c ↔ S c ∧ Inl (fun j => L.getD j.toNat 0) L.length (c x)) : RowOk (us mb x (some a)) (us Ls x L) js M i S2 := by
  have hnm : ¬ Mem mb x := fun z => by have := z.2.2; rw [hm] at this; cases this
  have hne : ∀ y, Mem mb y → y ≠ x := fun y hy e => hnm (e ▸ hy)
  have hz : ∀ y, Mem mb y → _ := fun y hy => szX_Ls (L2 := us Ls x L) h hy (us_ne (hne y hy))
  obtain ⟨r1, r2, r3, r4, r5⟩ := h
  have e1 := r5 x hx.1 hx.2 hnm
  have e2 := ((r1 x hx.1 hx.2).2.2 (by omega)).2
  have hq : ¬ 30 ≤ x := by omega
  have z1 : szX js (us Ls x L) (M (i + 0).toNat x) = L.length := by rw [e1]; unfold szX; rw [if_neg hq, us_at]
  have z2 : dlX M (us Ls x L) (M (i + 0).toNat x) = fun j => L.getD j.toNat 0 := by rw [e1]; funext j; unfold dlX; rw [if_neg hq, us_at]
  have hM : ∀ y, Mem mb y → M (i + 0).toNat y ≠ M (i + 0).toNat x := fun y hy e => by
    rw [e1] at e
    have := (r1 y hy.1 hy.2.1).2.2 (by omega)
    exact hne y hy (this.1.symm.trans e)
  refine ⟨r1, fun y hy => ?_, fun y hy => ?_, fun c => ?_, fun y y0 y1 hy => ?_⟩
  · rcases (Mem_us hx).mp hy with q | q
    · rw [(hz y q).1, (hz y q).2]; exact r2 y q
    · rw [q, z1, z2]; exact ⟨by omega, hL.2⟩
  · rcases (Mem_us hx).mp hy with q | q
    · obtain ⟨r, a1, a2⟩ := r3 y q
      exact ⟨r, (Mem_us hx).mpr (Or.inl a1), a2⟩
    · exact ⟨x, (Mem_us hx).mpr (Or.inr rfl), by rw [q], e2⟩
  · rw [hS c, r4 c]
    constructor
    · rintro ⟨⟨q1, q2⟩, q3⟩
      refine ⟨fun u v hu hv e => ?_, fun u hu => ?_⟩
      · rcases (Mem_us hx).mp hu with z | z
        · rcases (Mem_us hx).mp hv with w | w
          · exact q1 u v z w e
          · rw [w] at e; exact absurd e (hM u z)
        · rcases (Mem_us hx).mp hv with w | w
          · rw [z] at e; exact absurd e.symm (hM v w)
          · rw [z, w]
      · rcases (Mem_us hx).mp hu with z | z
        · rw [(hz u z).1, (hz u z).2]; exact q2 u z
        · rw [z, z1, z2, e2, Int.sub_zero]; exact q3
    · rintro ⟨q1, q2⟩
      refine ⟨⟨fun u v hu hv e => q1 u v ((Mem_us hx).mpr (Or.inl hu)) ((Mem_us hx).mpr (Or.inl hv)) e, fun u hu => ?_⟩, ?_⟩
      · have := q2 u ((Mem_us hx).mpr (Or.inl hu))
        rw [(hz u hu).1, (hz u hu).2] at this
        exact this
      · have := q2 x ((Mem_us hx).mpr (Or.inr rfl))
        rw [z1, z2, e2, Int.sub_zero] at this
        exact this
  · exact r5 y y0 y1 (fun z => hy ((Mem_us hx).mpr (Or.inl z)))
theorem ask_new {x : Int} {o : Option Nat} (hF : ∀ j : Int, 0 ≤ j → j < size → fF j ≠ x ∧ tT j ≠ x) {j : Int} (h0 : 0 ≤ j) (h1 : j < size) : asked (us mb x o) fF tT j = asked mb fF tT j := by
  unfold asked
  rw [us_ne (hF j h0 h1).1, us_ne (hF j h0 h1).2]
theorem sol_new {i x : Int} {a : Nat} {W : Int → Bool} {c : Int → Int} (hx : 0 ≤ x ∧ x < 30) (hm : mb x = none) (hF : ∀ j : Int, 0 ≤ j → j < i → fF j ≠ x ∧ tT j ≠ x) : SolN (us mb x (some a)) (us Ls x L) fF tT dD i W c ↔ SolN mb Ls fF tT dD i W c ∧ Inl (fun j => L.getD j.toNat 0) L.length (c x) := by
  have hnm : ¬ Mem mb x := fun z => by have := z.2.2; rw [hm] at this; cases this
  have hne : ∀ y, Mem mb y → y ≠ x := fun y hy e => hnm (e ▸ hy)
  constructor
  · rintro ⟨q1, q2⟩
    refine ⟨⟨fun y hy => ?_, fun j h0 h1 h2 => q2 j h0 h1 (by rw [ask_new hF h0 h1]; exact h2)⟩, ?_⟩
    · have := q1 y ((Mem_us hx).mpr (Or.inl hy))
      unfold gd at this ⊢
      rw [us_ne (hne y hy)] at this
      exact this
    · have := q1 x ((Mem_us hx).mpr (Or.inr rfl))
      unfold gd at this
      rw [us_at] at this
      exact this
  · rintro ⟨⟨q1, q2⟩, q3⟩
    refine ⟨fun y hy => ?_, fun j h0 h1 h2 => q2 j h0 h1 (by rw [ask_new hF h0 h1] at h2; exact h2)⟩
    unfold gd
    rcases (Mem_us hx).mp hy with z | z
    · rw [us_ne (hne y z)]; exact q1 y z
    · rw [z, us_at]; exact q3
theorem feas_new {x : Int} {a : Nat} {W : Int → Bool} (hx : 0 ≤ x ∧ x < 30) (hm : mb x = none) (hF : ∀ j : Int, 0 ≤ j → j < size → fF j ≠ x ∧ tT j ≠ x) (hL : 1 ≤ L.length) : Feas (us mb x (some a)) (us Ls x L) fF tT dD size W ↔ Feas mb Ls fF tT dD size W := by
  have hnm : ¬ Mem mb x := fun z => by have := z.2.2; rw [hm] at this; cases this
  have hne : ∀ y, Mem mb y → y ≠ x := fun y hy e => hnm (e ▸ hy)
  constructor
  · rintro ⟨c, hc⟩
    exact ⟨c, ((sol_new hx hm hF).mp hc).1⟩
  · rintro ⟨c, q1, q2⟩
    refine ⟨us c x (L.getD 0 0), (sol_new hx hm hF).mpr ⟨⟨fun y hy => ?_, fun j h0 h1 h2 h3 => ?_⟩, ?_⟩⟩
    · rw [us_ne (hne y hy)]; exact q1 y hy
    · rw [us_ne (hF j h0 h1).1, us_ne (hF j h0 h1).2]; exact q2 j h0 h1 h2 h3
    · rw [us_at]; exact ⟨0, by omega, by omega, rfl⟩
theorem adm_new {x : Int} {o : Option Nat} {W : Int → Bool} (hF : ∀ j : Int, 0 ≤ j → j < size → fF j ≠ x ∧ tT j ≠ x) : Adm (us mb x o) fF tT size W ↔ Adm mb fF tT size W := by
  constructor
  · intro h j hj
    obtain ⟨a1, a2, a3⟩ := h j hj
    exact ⟨a1, a2, by rw [ask_new hF a1 a2] at a3; exact a3⟩
  · intro h j hj
    obtain ⟨a1, a2, a3⟩ := h j hj
    exact ⟨a1, a2, by rw [ask_new hF a1 a2]; exact a3⟩
theorem sv_new {x : Int} {a : Nat} (h : Sv mb Ls fF tT dD size few wg js M) (hx : 0 ≤ x ∧ x < 30) (hm : mb x = none) (hF : ∀ j : Int, 0 ≤ j → j < size → fF j ≠ x ∧ tT j ≠ x) (hL : (1 ≤ L.length ∧ L.length ≤ 300) ∧ Mono (fun j => L.getD j.toNat 0) L.length) : Sv (us mb x (some a)) (us Ls x L) fF tT dD size few wg js M := by
  obtain ⟨⟨a1, a2⟩, a3, a4, a5, a6⟩ := h
  exact ⟨⟨(adm_new hF).mpr a1, (feas_new hx hm hF hL.1.1).mpr a2⟩, a3, a4, fun W h1 h2 => a5 W ((adm_new hF).mp h1) ((feas_new hx hm hF hL.1.1).mp h2), row_new a6 hx hm hL (fun c => sol_new hx hm hF)⟩
theorem sol_Ls {i : Int} {L2 : Int → List Int} {W : Int → Bool} {c : Int → Int} (he : ∀ y, Mem mb y → L2 y = Ls y) : SolN mb L2 fF tT dD i W c ↔ SolN mb Ls fF tT dD i W c := by
  constructor
  · rintro ⟨q1, q2⟩
    refine ⟨fun y hy => ?_, q2⟩
    have := q1 y hy
    unfold gd at this ⊢
    rw [he y hy] at this
    exact this
  · rintro ⟨q1, q2⟩
    refine ⟨fun y hy => ?_, q2⟩
    have := q1 y hy
    unfold gd at this ⊢
    rw [he y hy]
    exact this
theorem sv_Ls {L2 : Int → List Int} (h : Sv mb Ls fF tT dD size few wg js M) (he : ∀ y, Mem mb y → L2 y = Ls y) : Sv mb L2 fF tT dD size few wg js M := by
  obtain ⟨⟨a1, c, a2⟩, a3, a4, a5, a6⟩ := h
  exact ⟨⟨a1, c, (sol_Ls he).mpr a2⟩, a3, a4, fun W h1 ⟨d, h2⟩ => a5 W h1 ⟨d, (sol_Ls he).mp h2⟩, row_Ls a6 he (fun c => sol_Ls he)⟩
theorem LNet_new {m c2 : Int} {so9 : Nat} {m2 : Int → Option Nat} (h : LNet sc mm so mb Ls fF tT dD size mcn few wg slv js M) (hs : 0 ≤ sc ∧ sc < 30) (hL : inN m = true → (1 ≤ L.length ∧ L.length ≤ 300) ∧ Mono (fun j => L.getD j.toNat 0) L.length) (hy : inN m = true → m2 = us mb sc (some so9) ∧ c2 = mcn + 1) (hn : inN m = false → m2 = mb ∧ c2 = mcn) :
    LNet (sc + 1) (us mm sc m) (us so sc so9) m2 (us Ls sc L) fF tT dD size c2 few wg slv js M := by
  obtain ⟨a1, a2, a3, a4, a5, a6, a7⟩ := h
  have hm : mb sc = none := by rw [a1 sc hs.1 hs.2, if_neg (by omega)]
  have hF : ∀ j : Int, 0 ≤ j → j < size → fF j ≠ sc ∧ tT j ≠ sc := fun j h0 h1 => by have := a3 j h0 h1; omega
  have hc : (cnt (inNN (us mm sc m)) (sc + 1).toNat : Int) = (cnt (inNN mm) sc.toNat : Int) + (if inN m then 1 else 0) := by
    rw [show (sc + 1).toNat = sc.toNat + 1 from by omega, cnt_s, cnt_cong (q := inNN mm) (fun k hk => by
      unfold inNN
      rw [us_ne (by omega)])]
    have e : inNN (us mm sc m) sc.toNat = inN m := by
      unfold inNN
      rw [Int.toNat_of_nonneg hs.1, us_at]
    rw [e]
    cases inN m <;> simp
  have hrest : (∀ j : Int, 0 ≤ j → j < size → (0 ≤ fF j ∧ fF j < sc + 1) ∧ (0 ≤ tT j ∧ tT j < sc + 1) ∧ -500000 ≤ dD j ∧ dD j ≤ 500000) := fun j h0 h1 => by have := a3 j h0 h1; omega
  cases q : inN m with
  | true =>
    obtain ⟨rfl, rfl⟩ := hy q
    refine ⟨fun j h0 h1 => ?_, a2, hrest, ?_, a5, row_new a6 hs hm (hL q) (fun c => sol_new hs hm (fun j h0 h1 => by omega)), fun z => sv_new (a7 z) hs hm hF (hL q)⟩
    · by_cases e : j = sc
      · subst e
        rw [us_at, us_at, us_at, if_pos ⟨by omega, q⟩]
      · rw [us_ne e, us_ne e, us_ne e, a1 j h0 h1]
        by_cases z : j < sc ∧ inN (mm j) = true
        · rw [if_pos z, if_pos ⟨by omega, z.2⟩]
        · rw [if_neg z, if_neg (fun w => z ⟨by omega, w.2⟩)]
    · rw [hc, q, a4]; simp
  | false =>
    obtain ⟨rfl, rfl⟩ := hn q
    have he : ∀ y, Mem m2 y → us Ls sc L y = Ls y := fun y hy => us_ne (fun e => by have := hy.2.2; rw [e, hm] at this; cases this)
    refine ⟨fun j h0 h1 => ?_, a2, hrest, ?_, a5, row_Ls a6 he (fun c => sol_Ls he), fun z => sv_Ls (a7 z) he⟩
    · by_cases e : j = sc
      · subst e
        rw [us_at, us_at, hm, if_neg (fun z => by rw [q] at z; cases z.2)]
      · rw [us_ne e, us_ne e, a1 j h0 h1]
        by_cases z : j < sc ∧ inN (mm j) = true
        · rw [if_pos z, if_pos ⟨by omega, z.2⟩]
        · rw [if_neg z, if_neg (fun w => z ⟨by omega, w.2⟩)]
    · rw [hc, q, a4]; simp
theorem nlF_ok {f : SS} {b : Int} (h : inN ((nlF f b).length : Int) = true) : (1 ≤ ((nlF f b).take 300).length ∧ ((nlF f b).take 300).length ≤ 300) ∧ Mono (fun j => ((nlF f b).take 300).getD j.toNat 0) ((nlF f b).take 300).length := by
  have hr := inN_rng h
  have hl : ((nlF f b).take 300).length = min 300 (nlF f b).length := List.length_take
  refine ⟨by omega, fun j k j0 jk k1 => ?_⟩
  show ((nlF f b).take 300).getD j.toNat 0 < ((nlF f b).take 300).getD k.toNat 0
  rw [take_getD (by omega), take_getD (by omega)]
  exact (nlF_props f b).2 j.toNat k.toNat (by omega) (by omega)
end New
