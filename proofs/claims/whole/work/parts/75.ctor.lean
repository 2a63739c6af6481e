/-! Constructors: a walk over a list of things that grows. -/
abbrev yT : Type := List (ClassId × FieldType)
def zisC : Cond → Bool
  | .castable .. => true
  | .declares .. => true
  | _ => false
def casts : List Cond := tables_1.filter zisC
theorem casts_in {w : Cond} (h : w ∈ tables_1) (hg : zisC w = true) : w ∈ casts := List.mem_filter.mpr ⟨h, hg⟩
theorem casts_warm {s U : State} (hW : s.WarmedH U.vm) (h : ∀ w ∈ casts, va_Nw w s) : ∀ w ∈ casts, va_Nw w U := by
  intro w hw
  have h1 := h w hw
  have h2 := (List.mem_filter.mp hw).2
  cases w <;> first | (cases h2; done) | exact va_Nw.warmC hW h1 | exact va_Nw.warmD hW h1
theorem casts_same {u U : State} (hvm : u.vm = U.vm) (h : ∀ w ∈ casts, va_Nw w u) : ∀ w ∈ casts, va_Nw w U := by
  intro w hw
  have h1 := h w hw
  have h2 := (List.mem_filter.mp hw).2
  cases w <;> first | (cases h2; done) | exact va_tabs rfl hvm h1
def yK (D : va_G) (tys : yT) (U : State) : Prop := va_K D vwCl tys U ∧ (∀ w ∈ nests, va_Nw w U) ∧ va_AO "BowlsWithin$Bowl" U ∧ va_AO "BowlsWithin$Shelf" U ∧ (∀ w ∈ casts, va_Nw w U)
theorem yK.warm {D : va_G} {tys : yT} {s U : State} (hW : s.WarmedH U.vm) (h : yK D tys s) : yK D tys U := ⟨va_K.moved hW.alike h.1, nests_warm hW h.2.1, va_AO.moved hW.alike h.2.2.1, va_AO.moved hW.alike h.2.2.2.1, casts_warm hW h.2.2.2.2⟩
theorem yK.same {D : va_G} {tys : yT} {u U : State} (hvm : u.vm = U.vm) (h : yK D tys u) : yK D tys U := ⟨va_K.moved (by rw [← hvm]; exact Vm.Alike.refl _) h.1, nests_same hvm h.2.1, va_AO.moved (by rw [← hvm]; exact Vm.Alike.refl _) h.2.2.1, va_AO.moved (by rw [← hvm]; exact Vm.Alike.refl _) h.2.2.2.1, casts_same hvm h.2.2.2.2⟩
abbrev yG : Type := Nat → zL → List Value → yT → va_W → Nat → Nat → Prop
def yV (p : Program) (l : Launch) (e : Env) (R : Room) (s : State) (m : MethodId) (args : Array Value) (below : List Frame) (meth : Method) (c : Code) (nL : Nat) (D : va_G) (A : Nat → Prop) (H0 : Heap) (Qm : State → Prop) : yG := fun pc L S tys ws ce sl =>
  ∀ (ls : Array Slot) (H : Heap) (locs : List Loc), zlok id ls nL L → va_K D vwCl tys s → va_P D vwCl ws H → va_D A ws → va_S A H0 H locs →
    W p l e R s m args below meth c H locs ce sl Qm (F0 m pc ls S)
def yE (own : String) (cc : ByteArray) (nL n mc ms : Nat) (isI : Bool) (G : yG) : Prop := ∃ (p : Program) (l : Launch) (e : Env) (R : Room) (s : State) (m : MethodId) (args : Array Value) (below : List Frame) (meth : Method) (c : Code) (D : va_G) (A : Nat → Prop) (H0 : Heap) (Qm : State → Prop) (Ts : List Cond),
  G = yV p l e R s m args below meth c nL D A H0 Qm ∧ CallFix p m c cc nL s args Ts own ∧ (∀ w ∈ big, w ∈ Ts) ∧ yK D [] s ∧ (∀ q, H0.size ≤ q → A q) ∧ (n ≤ R.frames ∧ 60 * n ≤ R.locals ∧ mc ≤ R.cells ∧ ms ≤ R.slots) ∧ (isI = true → meth.name = "<init>")
theorem yE.elim {own : String} {cc : ByteArray} {nL n mc ms : Nat} {isI : Bool} {G : yG} {P : Prop} (h : yE own cc nL n mc ms isI G) (k : ∀ (p : Program) (l : Launch) (e : Env) (R : Room) (s : State) (m : MethodId) (args : Array Value) (below : List Frame) (meth : Method) (c : Code) (D : va_G) (A : Nat → Prop) (H0 : Heap) (Qm : State → Prop) (Ts : List Cond),
  G = yV p l e R s m args below meth c nL D A H0 Qm → CallFix p m c cc nL s args Ts own → (∀ w ∈ big, w ∈ Ts) → yK D [] s → (∀ q, H0.size ≤ q → A q) → (n ≤ R.frames ∧ 60 * n ≤ R.locals ∧ mc ≤ R.cells ∧ ms ≤ R.slots) → (isI = true → meth.name = "<init>") → P) : P := by
  obtain ⟨p, l, e, R, s, m, args, below, meth, c, D, A, H0, Qm, Ts, h1, h2, h3, h4, h5, h6, h7⟩ := h
  exact k p l e R s m args below meth c D A H0 Qm Ts h1 h2 h3 h4 h5 h6 h7
section YRows
variable {own : String} {cc : ByteArray} {nL n mc ms : Nat} {isI : Bool} {G : yG} {pc np : Nat} {L : zL} {S : List Value} {tys : yT} {ws : va_W} {ce sl : Nat}

theorem yr_aload_n (h : yE own cc nL n mc ms isI G) {k : Fin 4} {x : Nat} (hl : L[k.val]? = some (some (.ref x))) (hd : zD cc pc (.aload_n k) 1 np) (kk : G np L (.ref x :: S) tys ws ce sl) : G pc L S tys ws ce sl := by
  refine h.elim fun p l e R s m args below meth c D A H0 Qm Ts hG hC hB hK0 hA hR hI => ?_
  subst hG
  obtain ⟨hx, hb, hml, hown, hts⟩ := hC
  obtain ⟨hd, rfl⟩ := hd
  intro ls H locs hls hK hP hD hS
  exact lv_aload_n hx hb hd rfl (hls.at hl) (kk ls H locs hls hK hP hD hS)
theorem yr_iload_n (h : yE own cc nL n mc ms isI G) {k : Fin 4} {x : Int32} (hl : L[k.val]? = some (some (.int x))) (hd : zD cc pc (.iload_n k) 1 np) (kk : G np L (.int x :: S) tys ws ce sl) : G pc L S tys ws ce sl := by
  refine h.elim fun p l e R s m args below meth c D A H0 Qm Ts hG hC hB hK0 hA hR hI => ?_
  subst hG
  obtain ⟨hx, hb, hml, hown, hts⟩ := hC
  obtain ⟨hd, rfl⟩ := hd
  intro ls H locs hls hK hP hD hS
  exact lv_iload_n hx hb hd rfl (hls.at hl) (kk ls H locs hls hK hP hD hS)
theorem yr_astore_n (h : yE own cc nL n mc ms isI G) {k : Fin 4} {x : Nat} (hi : k.val < nL) (hz : znl L = true) (hd : zD cc pc (.astore_n k) 1 np) (kk : G np (L.set k.val (some (.ref x))) S tys ws ce sl) : G pc L (.ref x :: S) tys ws ce sl := by
  refine h.elim fun p l e R s m args below meth c D A H0 Qm Ts hG hC hB hK0 hA hR hI => ?_
  subst hG
  obtain ⟨hx, hb, hml, hown, hts⟩ := hC
  obtain ⟨hd, rfl⟩ := hd
  intro ls H locs hls hK hP hD hS
  exact lv_astore_n hx hb hd rfl hls hi rfl (fun ls1 h1 => kk ls1 H locs (zlok.set (φ := id) (v := .ref x) hz h1) hK hP hD hS)
theorem yr_istore_n (h : yE own cc nL n mc ms isI G) {k : Fin 4} {x : Int32} (hi : k.val < nL) (hz : znl L = true) (hd : zD cc pc (.istore_n k) 1 np) (kk : G np (L.set k.val (some (.int x))) S tys ws ce sl) : G pc L (.int x :: S) tys ws ce sl := by
  refine h.elim fun p l e R s m args below meth c D A H0 Qm Ts hG hC hB hK0 hA hR hI => ?_
  subst hG
  obtain ⟨hx, hb, hml, hown, hts⟩ := hC
  obtain ⟨hd, rfl⟩ := hd
  intro ls H locs hls hK hP hD hS
  exact lv_istore_n hx hb hd rfl hls hi rfl (fun ls1 h1 => kk ls1 H locs (zlok.set (φ := id) (v := .int x) hz h1) hK hP hD hS)
theorem yr_bipush (h : yE own cc nL n mc ms isI G) {k : Int} {v : Int32} (hv : (Int8.ofInt k).toInt32 = v) (hd : zD cc pc (.bipush k) 2 np) (kk : G np L (.int v :: S) tys ws ce sl) : G pc L S tys ws ce sl := by
  refine h.elim fun p l e R s m args below meth c D A H0 Qm Ts hG hC hB hK0 hA hR hI => ?_
  subst hG
  obtain ⟨hx, hb, hml, hown, hts⟩ := hC
  obtain ⟨hd, rfl⟩ := hd
  intro ls H locs hls hK hP hD hS
  exact lv_bipush hx hb hd hv (kk ls H locs hls hK hP hD hS)
theorem yr_sipush (h : yE own cc nL n mc ms isI G) {k : Int} {v : Int32} (hv : (Int16.ofInt k).toInt32 = v) (hd : zD cc pc (.sipush k) 3 np) (kk : G np L (.int v :: S) tys ws ce sl) : G pc L S tys ws ce sl := by
  refine h.elim fun p l e R s m args below meth c D A H0 Qm Ts hG hC hB hK0 hA hR hI => ?_
  subst hG
  obtain ⟨hx, hb, hml, hown, hts⟩ := hC
  obtain ⟨hd, rfl⟩ := hd
  intro ls H locs hls hK hP hD hS
  exact lv_sipush hx hb hd hv (kk ls H locs hls hK hP hD hS)
theorem yr_iconst (h : yE own cc nL n mc ms isI G) {k : Int} {v : Int32} (hv : Int32.ofInt k = v) (hd : zD cc pc (.iconst k) 1 np) (kk : G np L (.int v :: S) tys ws ce sl) : G pc L S tys ws ce sl := by
  refine h.elim fun p l e R s m args below meth c D A H0 Qm Ts hG hC hB hK0 hA hR hI => ?_
  subst hG
  obtain ⟨hx, hb, hml, hown, hts⟩ := hC
  obtain ⟨hd, rfl⟩ := hd
  intro ls H locs hls hK hP hD hS
  exact lv_iconst hx hb hd hv (kk ls H locs hls hK hP hD hS)
theorem yr_dup (h : yE own cc nL n mc ms isI G) {v : Value} (hv : v.category = 1) (hd : zD cc pc (.dup) 1 np) (kk : G np L (v :: v :: S) tys ws ce sl) : G pc L (v :: S) tys ws ce sl := by
  refine h.elim fun p l e R s m args below meth c D A H0 Qm Ts hG hC hB hK0 hA hR hI => ?_
  subst hG
  obtain ⟨hx, hb, hml, hown, hts⟩ := hC
  obtain ⟨hd, rfl⟩ := hd
  intro ls H locs hls hK hP hD hS
  exact lv_dup hx hb hd hv (kk ls H locs hls hK hP hD hS)
theorem yr_goto (h : yE own cc nL n mc ms isI G) {off : Int} {tgt : Nat} (ht : (pc : Int) + off = (tgt : Int)) (hd : zD cc pc (.goto off) 3 np) (kk : G tgt L S tys ws ce sl) : G pc L S tys ws ce sl := by
  refine h.elim fun p l e R s m args below meth c D A H0 Qm Ts hG hC hB hK0 hA hR hI => ?_
  subst hG
  obtain ⟨hx, hb, hml, hown, hts⟩ := hC
  obtain ⟨hd, rfl⟩ := hd
  intro ls H locs hls hK hP hD hS
  exact lv_goto hx hb hd ht (kk ls H locs hls hK hP hD hS)
theorem yr_icmp_ge (h : yE own cc nL n mc ms isI G) {off : Int} {tgt : Nat} {x y : Int32} (ht : (pc : Int) + off = (tgt : Int)) (hd : zD cc pc (.if_icmp .ge off) 3 np) (kt : y ≤ x → G tgt L S tys ws ce sl) (kf : ¬ y ≤ x → G np L S tys ws ce sl) : G pc L (.int y :: .int x :: S) tys ws ce sl := by
  refine h.elim fun p l e R s m args below meth c D A H0 Qm Ts hG hC hB hK0 hA hR hI => ?_
  subst hG
  obtain ⟨hx, hb, hml, hown, hts⟩ := hC
  obtain ⟨hd, rfl⟩ := hd
  intro ls H locs hls hK hP hD hS
  exact lv_icmp_ge hx hb hd ht (fun q => kt q ls H locs hls hK hP hD hS) (fun q => kf q ls H locs hls hK hP hD hS)
theorem yr_iinc (h : yE own cc nL n mc ms isI G) {k : Nat} {i : Int} (hd : zD cc pc (.iinc k i) 3 np) {x : Int32} (hl : L[k]? = some (some (.int x))) {v : Int32} (hv : x + Int32.ofInt i = v) (hi : k < nL) (hz : znl L = true) (kk : G np (L.set k (some (.int v))) S tys ws ce sl) : G pc L S tys ws ce sl := by
  refine h.elim fun p l e R s m args below meth c D A H0 Qm Ts hG hC hB hK0 hA hR hI => ?_
  subst hG
  obtain ⟨hx, hb, hml, hown, hts⟩ := hC
  obtain ⟨hd, rfl⟩ := hd
  intro ls H locs hls hK hP hD hS
  obtain ⟨j, hj⟩ := List.getElem?_of_mem ((zas_mem (φ := id) L 0 (k, .int x)).mpr ⟨k, .int x, hl, by simp [tv]⟩)
  exact lv_iinc hx hb hd hls (k := j) hj hv hi rfl (fun ls1 h1 => kk ls1 H locs (zlok.set (φ := id) (v := .int v) hz h1) hK hP hD hS)
theorem yr_new (h : yE own cc nL n mc ms isI G) {C : String} {T : u_T} {N ci idx : Nat} {fs : List Value} (ty : Nat → FieldType) (hd : zD cc pc (.new idx) 3 np) (hc : vwCl[ci]? = some (C, T, N)) (hin : ∀ w ∈ u_ws C T N, w ∈ big) (hty : ∀ k, k < N → parseFieldDescriptor (T k).2.2.1 = some (ty k)) (hw1 : Cond.classLink own idx C ∈ big) (hw2 : Cond.instantiable C N ∈ big) (hw3 : Cond.initialized C ∈ big)
    (hfs : ∀ j, j < N → defaultValue (ty j) = vp_V fs j) (h1 : ce + 1 ≤ mc) (h2 : sl + N ≤ ms) (kk : ∀ q : Nat, G np L (.ref q :: S) tys (ws ++ [(q, .inr (ci, fs))]) (ce + 1) (sl + N)) : G pc L S tys ws ce sl := by
  refine h.elim fun p l e R s m args below meth c D A H0 Qm Ts hG hC hB hK0 hA hR hI => ?_
  subst hG
  obtain ⟨hx, hb, hml, hown, hts⟩ := hC
  obtain ⟨hd, rfl⟩ := hd
  intro ls H locs hls hK hP hD hS
  exact va_new hx hb hts (fun w hw => hB w (hin w hw)) ty hty hown (hts _ (hB _ hw1)) (hts _ (hB _ hw2)) (hts _ (hB _ hw3)) hK hP hD hS hA hc hfs (Nat.le_trans h1 hR.2.2.1) (Nat.le_trans h2 hR.2.2.2) hd (fun q H1 hP1 hD1 hS1 => kk q ls H1 locs hls hK hP1 hD1 hS1)
theorem yr_newI (h : yE own cc nL n mc ms isI G) {cA : ClassId} {t0 N' : Nat} {k : Int32} (hd : zD cc pc (.newarray .int) 2 np) (hw : Cond.arrayClass .int ∈ big) (ht : tys[t0]? = some (cA, .int)) (hn : ¬ k < 0) (hN : k.toNatClampNeg = N') (hbt : N' ≤ 100000) (h1 : ce + 1 ≤ mc) (h2 : sl + N' ≤ ms)
    (kk : ∀ q : Nat, G np L (.ref q :: S) tys (ws ++ [(q, .inl (cA, N', .inl (fun _ => 0)))]) (ce + 1) (sl + N')) : G pc L (.int k :: S) tys ws ce sl := by
  refine h.elim fun p l e R s m args below meth c D A H0 Qm Ts hG hC hB hK0 hA hR hI => ?_
  subst hG
  obtain ⟨hx, hb, hml, hown, hts⟩ := hC
  obtain ⟨hd, rfl⟩ := hd
  intro ls H locs hls hK hP hD hS
  refine va_newa (atype := .int) (ty := .int) (a0 := (N', .inl (fun _ => 0))) hx hb (hts _ (hB _ hw)) rfl hK hP hD hS hA (fun cA => rfl) hn hN (by show N' * 4 ≤ 536870912; omega) (Nat.le_trans h1 hR.2.2.1) (Nat.le_trans h2 hR.2.2.2) hd (fun q cA2 H1 hK1 hP1 hD1 hS1 => ?_)
  have e : cA2 = cA := by
    have a1 := (hK.2 t0 _ ht).2
    have a2 := (hK1.2 tys.length (cA2, .int) (by simp)).2
    exact Option.some.inj (a2.symm.trans a1)
  subst e
  exact kk q ls H1 locs hls hK hP1 hD1 hS1
theorem yr_newq (h : yE own cc nL n mc ms isI G) {C : String} {idx N' : Nat} {k : Int32} (hd : zD cc pc (.anewarray idx) 3 np) (hw : Cond.classLink own idx C ∈ big) (hC : C = "BowlsWithin$Bowl" ∨ C = "BowlsWithin$Shelf") (hn : ¬ k < 0) (hN : k.toNatClampNeg = N') (hbt : N' ≤ 100000) (h1 : ce + 1 ≤ mc) (h2 : sl + N' ≤ ms)
    (kk : ∀ (q : Nat) (cA : ClassId), G np L (.ref q :: S) (tys ++ [(cA, .object C)]) (ws ++ [(q, .inl (cA, N', .inr (.inr (.inr (.inr (fun _ => none))))))]) (ce + 1) (sl + N')) : G pc L (.int k :: S) tys ws ce sl := by
  refine h.elim fun p l e R s m args below meth c D A H0 Qm Ts hG hC hB hK0 hA hR hI => ?_
  subst hG
  obtain ⟨hx, hb, hml, hown, hts⟩ := hC
  obtain ⟨hd, rfl⟩ := hd
  intro ls H locs hls hK hP hD hS
  exact va_newq hx hb hown (hts _ (hB _ hw)) (by rcases hC with rfl | rfl; exact hK0.2.2.1; exact hK0.2.2.2.1) hK hP hD hS hA hn hN (by omega) (Nat.le_trans h1 hR.2.2.1) (Nat.le_trans h2 hR.2.2.2) hd (fun q cA H1 hK1 hP1 hD1 hS1 => kk q cA ls H1 locs hls hK1 hP1 hD1 hS1)
theorem yr_aast (h : yE own cc nL n mc ms isI G) (q0 t0 qk ci : Nat) {cA : ClassId} {r : vw_C} {N' a v : Nat} {vs : List Value} {f : Nat → Option Nat} {i : Int32} (hd : zD cc pc (.aastore) 1 np) (ha : ws[q0]? = some (a, .inl (cA, N', .inr (.inr (.inr (.inr f)))))) (ht : tys[t0]? = some (cA, .object r.1)) (hv : ws[qk]? = some (v, .inr (ci, vs))) (hc : vwCl[ci]? = some r) (hin : vp_in i N')
    (kk : G np L S tys (ws.set q0 (a, .inl (cA, N', .inr (.inr (.inr (.inr (va_up f i.toNatClampNeg (some v)))))))) ce sl) : G pc L (.ref v :: .int i :: .ref a :: S) tys ws ce sl := by
  refine h.elim fun p l e R s m args below meth c D A H0 Qm Ts hG hC hB hK0 hA hR hI => ?_
  subst hG
  obtain ⟨hx, hb, hml, hown, hts⟩ := hC
  obtain ⟨hd, rfl⟩ := hd
  intro ls H locs hls hK hP hD hS
  exact va_astq hx hb hK hP hD hS q0 t0 qk ci ha ht hv hc hin hd (fun H1 locs1 hP1 hD1 hS1 => kk ls H1 locs1 hls hK hP1 hD1 hS1)
theorem yr_aastO (h : yE own cc nL n mc ms isI G) (q0 t0 qk ci : Nat) {E : String} {cA : ClassId} {r : vw_C} {N' a v : Nat} {vs : List Value} {f : Nat → Option Nat} {i : Int32} (hd : zD cc pc (.aastore) 1 np) (ha : ws[q0]? = some (a, .inl (cA, N', .inr (.inr (.inr (.inr f)))))) (ht : tys[t0]? = some (cA, .object E)) (hw : Cond.castable r.1 E ∈ casts) (hv : ws[qk]? = some (v, .inr (ci, vs))) (hc : vwCl[ci]? = some r) (hin : vp_in i N')
    (kk : G np L S tys (ws.set q0 (a, .inl (cA, N', .inr (.inr (.inr (.inr (va_up f i.toNatClampNeg (some v)))))))) ce sl) : G pc L (.ref v :: .int i :: .ref a :: S) tys ws ce sl := by
  refine h.elim fun p l e R s m args below meth c D A H0 Qm Ts hG hC hB hK0 hA hR hI => ?_
  subst hG
  obtain ⟨hx, hb, hml, hown, hts⟩ := hC
  obtain ⟨hd, rfl⟩ := hd
  intro ls H locs hls hK hP hD hS
  exact va_astqO hx hb hK hP hD hS q0 t0 qk ci ha ht (hK0.2.2.2.2 _ hw) hv hc hin hd (fun H1 locs1 hP1 hD1 hS1 => kk ls H1 locs1 hls hK hP1 hD1 hS1)
theorem yr_putF (h : yE own cc nL n mc ms true G) (q0 k : Nat) {C : String} {T : u_T} {N ci idx a : Nat} {fs : List Value} {ty : FieldType} {v : Value} (ty0 : Nat → FieldType) (hd : zD cc pc (.putfield idx) 3 np) (hc : vwCl[ci]? = some (C, T, N)) (hin : ∀ w ∈ u_ws C T N, w ∈ big) (hty : ∀ k, k < N → parseFieldDescriptor (T k).2.2.1 = some (ty0 k)) (hnm : ∀ a, a < N → ∀ b, b < N → a ≠ b → (T a).2.1 ≠ (T b).2.1) (he : ws[q0]? = some (a, .inr (ci, fs))) (hk : k < N) (hw : Cond.fieldLink own idx C (T k).2.1 (T k).2.2.1 ∈ big) (hT : (T k).1 = C) (hown2 : C = own) (hfin : (T k).2.2.2 = true) (hds : parseFieldDescriptor (T k).2.2.1 = some ty) (hn : narrow ty v = v) (hfit : fits ty v = true) (hl : k < fs.length)
    (kk : G np L S tys (ws.set q0 (a, .inr (ci, fs.set k v))) ce sl) : G pc L (v :: .ref a :: S) tys ws ce sl := by
  refine h.elim fun p l e R s m args below meth c D A H0 Qm Ts hG hC hB hK0 hA hR hI => ?_
  subst hG
  obtain ⟨hx, hb, hml, hown, hts⟩ := hC
  obtain ⟨hd, rfl⟩ := hd
  intro ls H locs hls hK hP hD hS
  exact va_putF hx hb hts (fun w hw => hB w (hin w hw)) ty0 hty hnm hown hK hP hD hS q0 he hc k hk (hts _ (hB _ hw)) (fun x q => by rw [hT] at q; exact q) hfin (hI rfl) (hT.trans hown2) hds hn hfit hl hd (fun H1 locs1 hP1 hD1 hS1 => kk ls H1 locs1 hls hK hP1 hD1 hS1)
theorem yr_obj (h : yE own cc nL n mc ms isI G) {idx a : Nat} (hd : zD cc pc (.invokespecial idx) 3 np) (hw : Cond.methodLink own idx Lib.objectInit ∈ big) (hw2 : Cond.instanceMethod Lib.objectInit ∈ big) (hw3 : Cond.code Lib.objectInit ⟨#[0xb1]⟩ 1 none ∈ big) (hn : 1 ≤ n) (hcat : zcat S ≤ 8) (kk : G np L S tys ws ce sl) : G pc L (.ref a :: S) tys ws ce sl := by
  refine h.elim fun p l e R s m args below meth c D A H0 Qm Ts hG hC hB hK0 hA hR hI => ?_
  subst hG
  obtain ⟨hx, hb, hml, hown, hts⟩ := hC
  obtain ⟨hd, rfl⟩ := hd
  intro ls H locs hls hK hP hD hS
  refine W.objInit hx hb hown (hts _ (hB _ hw)) (hts _ (hB _ hw2)) (hts _ (hB _ hw3)) rfl (hls.1.trans hml.symm) rfl hd (Nat.le_trans hn hR.1) (by have h9 := lv_room (m := m) (pc := pc) (ls := ls) (st := S) (rest := .ref a :: S) hcat; have := hR.2.1; omega) ?_
  exact W.eq (g2 := F0 m (pc + 3) ls S) rfl (kk ls H locs hls hK hP hD hS)
end YRows
