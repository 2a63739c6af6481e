/-! Exceptions over the fixed world: contracts, handlers, calls. -/
theorem zlok.forget {φ : Nat → Nat} {ls : Array Slot} {nL j : Nat} {L : zL} {v : Value} (hz : znl L = true) (hj : ∀ u, ¬ L[j]? = some (some u)) (h : lv_has ls nL ((j, v) :: (zas φ 0 L).filter (fun q => !(q.1 == j) && !(q.1 + 1 == j && q.2.category == 2)))) : zlok φ ls nL L := by
  refine ⟨h.1, h.2.1, fun q hq => h.2.2 q (List.mem_cons_of_mem _ (List.mem_filter.mpr ⟨hq, ?_⟩))⟩
  obtain ⟨k, u, hk, rfl⟩ := (zas_mem L 0 q).mp hq
  have hkj : ¬ 0 + k = j := by
    rintro rfl
    exact hj u (by simpa using hk)
  have hc := znl_cat hz hk
  simp only [tv_cat]
  simp [hkj, hc]
  intro h1
  omega
/-- the table hh of a method of class own catches E, thrown at pc, behind its store of what it caught -/
def zHn (own : String) (cc : ByteArray) (nL : Nat) (hh : List (Nat × Nat × Nat × Nat)) (pc : Nat) (E : String) (L : zL) (nh : Nat) : Prop := ∃ (pre : List ExceptionTableEntry) (x : ExceptionTableEntry) (suf : List ExceptionTableEntry) (name : String) (j : Nat), tableOf hh = pre ++ x :: suf ∧ (∀ z ∈ pre, covers z pc = false ∨ (z.catchType ≠ 0 ∧ ∃ nm : String, Cond.classLink own z.catchType nm ∈ big ∧ (E, nm) ∈ xnc)) ∧ covers x pc = true ∧ x.catchType ≠ 0 ∧ Cond.classLink own x.catchType name ∈ big ∧ Cond.castable E name ∈ casts ∧ zD cc x.handlerPc (.astore j) 2 nh ∧ j < nL ∧ znl L = true ∧ (∀ u, ¬ L[j]? = some (some u))
section ZX
variable {p : Program} {l : Launch} {e : Env} {R : Room} {s : State} {m : MethodId} {args : Array Value} {below : List Frame} {meth : Method} {c : Code} {φ : Nat → Nat} {cA : Nat → ClassId} {D : va_G} {A B : Nat → Prop} {H0 : Heap} {cells slots mc ms : Nat} {Qm : State → Prop}
theorem z_catch {own : String} {cc : ByteArray} {nL pc nh : Nat} {hh : List (Nat × Nat × Nat × Nat)} {E : String} {L : zL} {Ts : List Cond} {w : ww} {ls : Array Slot} {H : Heap} {locs : List Loc} {q : Addr} {ce : Cell} {rest : List Value} (hC : CallFix p m c cc nL s args Ts own) (hB : ∀ w ∈ big, w ∈ Ts) (htab : c.exceptionTable.toList = tableOf hh) (hX : zXf B s) (hH : zHn own cc nL hh pc E L nh)
    (hls : zlok φ ls nL L) (hP : va_P D vwCl (zWS φ cA w) H) (hD : va_D A (zWS φ cA w)) (hS : va_S A H0 H locs) (hcell : H[q]? = some ce) (hv : ce.vm = .none) (hcl : s.vm.findClass E = some ce.cls)
    (kk : zV p l e R s m args below meth c nL φ cA D A H0 cells slots Qm nh L [] w) : vx_W p l e R s m args below meth c H locs cells slots Qm (F0 m pc ls rest) q := by
  obtain ⟨hx, hb, hml, hown, hts⟩ := hC
  obtain ⟨pre, x, suf, name, j, h1, h2, h3, h4, h5, h6, ⟨hd, rfl⟩, h8, h9, h10⟩ := hH
  refine vx_catch hown pre x suf (htab.trans h1) (fun z hz => ?_) h3 h4 (hts _ (hB _ h5)) (va_Nw.use rfl (hX.2.2.2.2 _ h6)) hcell hv hcl ?_
  · rcases h2 z hz with h | ⟨h0, nm, ha, hb2⟩
    · exact Or.inl h
    · exact Or.inr ⟨h0, nm, hts _ (hB _ ha), hX.2.2.2.1 _ hb2⟩
  · exact lv_astore hx hb hd hls h8 rfl (fun ls' h' => kk ls' H locs (zlok.forget h9 h10 h') hP hD hS)
/-- behind a call that may throw -/
theorem z_behindX {nL pc : Nat} {L : zL} {ls : Array Slot} {H : Heap} {locs : List Loc} {S st0 : List Value} {a : Array Value} {w : ww} {Q : Option Value → ww → Prop} {QX : String → Prop}
    (hr : vx_Run p l e R s m args below meth c H locs cells slots mc ms (F0 m pc ls st0) (S.map (tv φ)) (zQc φ cA D (zA φ H.size) Q a) (vx_X (fun _ : Unit => True) (fun E _ t => QX E ∧ va_P D vwCl (zWS φ cA w) t.heap) (zA φ H.size)) (zA φ H.size)) (hls : zlok φ ls nL L) (hD : va_D A (zWS φ cA w)) (hS : va_S A H0 H locs) (hA : ∀ q, H0.size ≤ q → A q)
    (kk : ∀ r w', Q r w' → zV p l e R s m args below meth c nL φ cA D A H0 (cells + mc) (slots + ms) Qm (pc + 3) L (zpush r S) w')
    (kx : ∀ (E : String) (ce : Cell) (q9 : Addr) (H1 : Heap) (locs1 : List Loc), QX E → va_P D vwCl (zWS φ cA w) H1 → va_S A H0 H1 locs1 → H1[q9]? = some ce → ce.vm = .none → s.vm.findClass E = some ce.cls → vx_W p l e R s m args below meth c H1 locs1 (cells + mc) (slots + ms) Qm (F0 m pc ls (S.map (tv φ))) q9) : W p l e R s m args below meth c H locs cells slots Qm (F0 m pc ls st0) := by
  have hin := zA_in hD hS hA
  intro T hT X
  rcases hr T hT X with ⟨v, st₀, t, T', L2, h0, X', hL, e1, e2, ⟨⟨r, w', hv, hq, hP1, hD1⟩, hF⟩, st⟩ | ⟨q, st₀, t, T', L2, E, ce, h0, X', hL, e1, e2, ⟨u, -, ⟨hq, hP1⟩, hF⟩, hce, hcv, hcl, st⟩
  · have hv : v = r.map (tv φ) := by cases hv; rfl
    subst hv
    obtain ⟨k1, k2, k3⟩ := vx_keep h0 e1 hS (fun q _ z => hin q z) hin hL hF
    obtain ⟨t2, a1, b1⟩ := kk r w' hq ls T'.heap (locs ++ L2) hls (by rw [e1]; exact hP1) (hD1.weaken (fun k q _ h => hin q.1 h)) k3 T' rfl X'
    refine ⟨t2, st t2 ?_, b1⟩
    rw [zpush_map]
    exact a1
  · obtain ⟨k1, k2, k3⟩ := vx_keep h0 e1 hS (fun q _ z => hin q z) hin hL hF
    obtain ⟨t2, a1, b1⟩ := kx E ce q T'.heap (locs ++ L2) hq (by rw [e1]; exact hP1) k3 (by rw [e1]; exact hce) hcv hcl T' rfl X'
    exact ⟨t2, st.trans a1, b1⟩
/-- behind a call that returns, having made mc cells -/
theorem z_behindM {nL pc : Nat} {L : zL} {ls : Array Slot} {H : Heap} {locs : List Loc} {S st0 : List Value} {a : Array Value} {w : ww} {Q : Option Value → ww → Prop}
    (hr : va_Run p l e R s m args below meth c H locs cells slots mc ms (F0 m pc ls st0) (S.map (tv φ)) (zQc φ cA D (zA φ H.size) Q a) (zA φ H.size)) (hls : zlok φ ls nL L) (hD : va_D A (zWS φ cA w)) (hS : va_S A H0 H locs) (hA : ∀ q, H0.size ≤ q → A q)
    (kk : ∀ r w', Q r w' → zV p l e R s m args below meth c nL φ cA D A H0 (cells + mc) (slots + ms) Qm (pc + 3) L (zpush r S) w') : W p l e R s m args below meth c H locs cells slots Qm (F0 m pc ls st0) := by
  have hin := zA_in hD hS hA
  intro T hT X
  obtain ⟨v, st₀, t, T', L2, h0, X', hL, e1, e2, ⟨⟨r, w', hv, hq, hP1, hD1⟩, hF⟩, st⟩ := hr T hT X
  have hv : v = r.map (tv φ) := by cases hv; rfl
  subst hv
  obtain ⟨k1, k2, k3⟩ := vx_keep h0 e1 hS (fun q _ z => hin q z) hin hL hF
  obtain ⟨t2, a1, b1⟩ := kk r w' hq ls T'.heap (locs ++ L2) hls (by rw [e1]; exact hP1) (hD1.weaken (fun k q _ h => hin q.1 h)) k3 T' rfl X'
  refine ⟨t2, st t2 ?_, b1⟩
  rw [zpush_map]
  exact a1
end ZX
/-- what stands before a call of a method that may make an exception -/
def zBX (φ : Nat → Nat) (cA : Nat → ClassId) (D : va_G) (w : ww) (sz : Nat) : State → Prop := fun U => zB φ cA D w sz U ∧ zXf (zA φ sz) U
theorem zX_blind {φ : Nat → Nat} {cA : Nat → ClassId} {D : va_G} {w : ww} {sz : Nat} {av : List Value} : FrameBlind (va_Pc av (zBX φ cA D w sz)) := by
  intro a U g mk q
  obtain ⟨q0, q1, qX⟩ := q
  obtain ⟨-, h2⟩ := z_blind (φ := φ) (cA := cA) (D := D) (w := w) (sz := sz) (av := av) a U g mk ⟨q0, q1⟩
  exact ⟨q0, h2, zXf.same (u := U) (U := U.calling g mk a) rfl rfl qX⟩
def zwsX (M : zM) (hh : List (Nat × Nat × Nat × Nat)) : List Cond := Cond.codeWith M.1 M.2.1 M.2.2.1 M.2.2.2 hh :: big
/-- a method that catches -/
def CtX (M : zM) (hh : List (Nat × Nat × Nat × Nat)) (n : Nat) (av : List Value) (w : ww) (Q : Option Value → ww → Prop) : Prop := ∀ (l : Launch), l.stackTraces = false → ∀ (φ : Nat → Nat) (cA : Nat → ClassId) (D : va_G) (sz : Nat),
  Met l M.1 (zwsX M hh) (rmx n) (va_Pc (av.map (tv φ)) (zBX φ cA D w sz)) (zQc φ cA D (zA φ sz) Q) 1 6 (zA φ sz)
/-- a method that throws, over the fixed world, which it leaves as it is then -/
def Lc (M : zM) (n : Nat) (av : List Value) (w : ww) (Q : Option Value → ww → Prop) (QX : String → Prop) : Prop := ∀ (l : Launch), l.stackTraces = false → ∀ (φ : Nat → Nat) (cA : Nat → ClassId) (D : va_G) (sz : Nat),
  vx_Met l M.1 (zws M) (rmx n) (va_Pc (av.map (tv φ)) (zBX φ cA D w sz)) (zQc φ cA D (zA φ sz) Q) (vx_X (fun _ : Unit => True) (fun E _ t => QX E ∧ va_P D vwCl (zWS φ cA w) t.heap) (zA φ sz)) 1 6 (zA φ sz)
/-- a walk of a method that catches: before and behind the one call that may make an exception -/
def zEX (own : String) (cc : ByteArray) (nL n : Nat) (hh : List (Nat × Nat × Nat × Nat)) (G0 G1 : zG) : Prop := ∃ (p : Program) (l : Launch) (e : Env) (R : Room) (s : State) (m : MethodId) (args : Array Value) (below : List Frame) (meth : Method) (c : Code) (φ : Nat → Nat) (cA : Nat → ClassId) (D : va_G) (Qm : State → Prop) (Ts : List Cond),
  G0 = zV p l e R s m args below meth c nL φ cA D (zA φ s.heap.size) s.heap 0 0 Qm ∧ G1 = zV p l e R s m args below meth c nL φ cA D (zA φ s.heap.size) s.heap 1 6 Qm ∧ CallFix p m c cc nL s args Ts own ∧ (∀ w ∈ big, w ∈ Ts) ∧ zK D cA s ∧ n ≤ R.frames ∧ 60 * n ≤ R.locals ∧ 1 ≤ R.cells ∧ 6 ≤ R.slots ∧ l.stackTraces = false ∧ c.exceptionTable.toList = tableOf hh ∧ zXf (zA φ s.heap.size) s
theorem zEX.g0 {own : String} {cc : ByteArray} {nL n : Nat} {hh : List (Nat × Nat × Nat × Nat)} {G0 G1 : zG} (h : zEX own cc nL n hh G0 G1) : zE own cc nL n G0 := by
  obtain ⟨p, l, e, R, s, m, args, below, meth, c, φ, cA, D, Qm, Ts, h1, h2, h3, h4, h5, h6, h7, h8, h9, -⟩ := h
  exact ⟨p, l, e, R, s, m, args, below, meth, c, φ, cA, D, zA φ s.heap.size, s.heap, 0, 0, Qm, Ts, h1, h3, h4, h5, fun q h => Or.inr h, h6, h7, Nat.zero_le _, Nat.zero_le _⟩
theorem zEX.g1 {own : String} {cc : ByteArray} {nL n : Nat} {hh : List (Nat × Nat × Nat × Nat)} {G0 G1 : zG} (h : zEX own cc nL n hh G0 G1) : zE own cc nL n G1 := by
  obtain ⟨p, l, e, R, s, m, args, below, meth, c, φ, cA, D, Qm, Ts, h1, h2, h3, h4, h5, h6, h7, h8, h9, -⟩ := h
  exact ⟨p, l, e, R, s, m, args, below, meth, c, φ, cA, D, zA φ s.heap.size, s.heap, 1, 6, Qm, Ts, h2, h3, h4, h5, fun q h => Or.inr h, h6, h7, h8, h9⟩
/-- a call of a bowl's `fail` -/
theorem zEX.fail {own : String} {cc : ByteArray} {nL n : Nat} {hh : List (Nat × Nat × Nat × Nat)} {G0 G1 : zG} (h : zEX own cc nL n hh G0 G1) {pc np idx k o ci nh : Nat} {fl : List (Option Nat)} {q : vw_C} {x : MethodName} {M : zM} {E : String} {P : Int32 → Prop} {v : Int32} {L : zL} {S : List Value} {w : ww} (hd : zD cc pc (.invokevirtual idx) 3 np) (hl : zLu own idx x q.1 M 1) (hs : zshapes[o]? = some (zob ci fl)) (hq : vwCl[ci]? = some q) (hn : k + 1 ≤ n) (hcat : zcat S ≤ 8) (hF : Fc M E P k)
    (kk : P v → G1 np L S w) (kx : ¬ P v → zHn own cc nL hh pc E L nh ∧ G1 nh L [] w) : G0 pc L (.int v :: .ref o :: S) w := by
  obtain ⟨p, l, e, R, s, m, args, below, meth, c, φ, cA, D, Qm, Ts, rfl, rfl, hC, hB, hK, hn1, hn2, hn3, hn4, hst, htab, hX⟩ := h
  obtain ⟨hd, rfl⟩ := hd
  intro ls H locs hls hP hD hS
  have hC' := hC
  obtain ⟨hx, hb, hml, hown, hts⟩ := hC'
  obtain ⟨hlk, hsame, hinx, ⟨b0, m0, r0, hcx⟩, hsel, hinst, hini, hcode, hmh, hpar, h30⟩ := hl
  have hM := hF l hst (fun q => H.size ≤ q) (φ o) v H.size
  have hPre : PreV s H q.1 (φ o) (va_Pc [.ref (φ o), .int v] (fun U => U.heap.size = H.size ∧ zXf (fun q => H.size ≤ q) U)) [.int v] :=
    ⟨fun a U g mk z => ⟨z.1, z.2.1, zXf.same (u := U) (U := U.calling g mk a) rfl rfl z.2.2⟩, va_recv hK.1 hP hq (zWS_get hs), fun U hU hW => ⟨rfl, by rw [hU], hX.move hW (by rw [hU]; exact hS) (fun q hq => Or.inr (Nat.le_trans hS.1 hq))⟩⟩
  have hR1 : (rmx k).frames + 1 ≤ R.frames := Nat.le_trans hn hn1
  have hR2 : 8 + (M.2.2.1 + 11) + (rmx k).locals ≤ R.locals := by show 8 + (M.2.2.1 + 11) + 60 * k ≤ R.locals; omega
  have hcat' : 2 * (F0 m pc ls (([Value.int v] : List Value).reverse ++ .ref (φ o) :: S.map (tv φ))).monitorRoom + ((S.map (tv φ)).map fun v => v.category).sum ≤ 8 := lv_room (by rw [zcat_tv]; exact hcat)
  have hws := zws_good hB hcode
  have cw : va_CU R s args own q.1 x.cls idx x M.1 M.2.1 M.2.2.1 M.2.2.2 (zws M) (rmx k) 1 6 1 := by
    refine ⟨⟨rfl, rfl, hR1, hR2, pay_in hts hws, List.mem_cons_self⟩, hts _ (hB _ hcode), hts _ (hB _ hini), hmh, fun sig h => ?_, hts _ (hB _ hlk), hts _ (hB _ hsame), va_Decl.of (hts _ (hB _ hinx)) (hts _ (hB _ hcx)), hts _ (hB _ hsel), hts _ (hB _ hinst)⟩
    rw [h] at hpar
    exact (Option.some.inj hpar).symm
  have run := vx_runU (rest := S.map (tv φ)) (g := F0 m pc ls (([Value.int v] : List Value).reverse ++ .ref (φ o) :: S.map (tv φ))) (cells := 0) (slots := 0) (H := H) (locs := locs) (l := l) (e := e) (below := below) (meth := meth) hC hM cw hPre rfl rfl hls.1 rfl hcat' hd ⟨by omega, by omega⟩
  have hup : ∀ q : Nat, H.size ≤ q → zA φ s.heap.size q := fun q hq => Or.inr (Nat.le_trans hS.1 hq)
  refine vx_callv run hS (fun q _ h => hup q h) hup (fun q _ h => hup q h) ?_ ?_
  · intro E' ce q9 u t H1 locs1 ht hal hp hE hsz hsame1 hS1 hcell hv hcl
    subst hE
    obtain ⟨hH, kg⟩ := kx hp
    exact z_catch hC hB htab hX hH hls (hP.kept (fun k q hk => hsame1 q.1 (vx_lt hP hk) (fun h => absurd (vx_lt hP hk) (Nat.not_lt.mpr h)))) hD hS1 hcell hv hcl kg
  · intro u t H1 locs1 ht hal hp _ hsz hsame1 hS1
    exact kk hp ls H1 locs1 hls (hP.kept (fun k q hk => hsame1 q.1 (vx_lt hP hk) (fun h => absurd (vx_lt hP hk) (Nat.not_lt.mpr h)))) hD hS1
set_option maxHeartbeats 2000000 in
theorem CtX.of {M : zM} {hh : List (Nat × Nat × Nat × Nat)} {n : Nat} {av : List Value} {w : ww} {Q : Option Value → ww → Prop} (hp : plainName M.1.cls = true) (hlen : (zel av).length ≤ M.2.2.1) (hfit : ∀ φ : Nat → Nat, (lg_sl (av.map (tv φ))).length ≤ M.2.2.1) (hret : M.2.2.2 = some .int)
    (body : ∀ G0 G1 : zG, zEX M.1.cls M.2.1 M.2.2.1 n hh G0 G1 → (∀ (v : Int32) (pc : Nat) (L : zL) (w : ww) (np : Nat), zD M.2.1 pc .ireturn 1 np → Q (some (.int v)) w → G0 pc L [.int v] w) → (∀ (v : Int32) (pc : Nat) (L : zL) (w : ww) (np : Nat), zD M.2.1 pc .ireturn 1 np → Q (some (.int v)) w → G1 pc L [.int v] w) → G0 0 (zpad M.2.2.1 (zel av)) [] w) : CtX M hh n av w Q := by
  intro l hst φ cA D sz
  refine va_MetW (cc := M.2.1) (maxL := M.2.2.1) (ret := M.2.2.2) (hh := hh) hp rfl ?_
  intro p e s m args below meth c s₁ B hml hv
  obtain ⟨rfl, ⟨rfl, hP, hK, hD0⟩, hX⟩ := hv
  have hx := B.exec
  have hb := B.bytes
  have hr := B.returns
  have hts := atoms_spec (ws := zwsX M hh) B.pre
  have hown : s.vm.findClass M.1.cls = some m.cls := findClass_of_methodNamed B.named
  have hlocks := B.notSynchronized
  have htab := vx_table (x := M.1) B (hts _ List.mem_cons_self)
  have hD := zA_big (sz := s.heap.size) hD0
  rw [lg_entry_eq]
  have hl := lv_entry (av.map (tv φ)) (n := M.2.2.1) (hfit φ)
  have hls : zlok φ ((lg_sl (av.map (tv φ)) ++ List.replicate (M.2.2.1 - (lg_sl (av.map (tv φ))).length) Slot.unset).toArray) M.2.2.1 (zel av) :=
    ⟨hl.1, hl.2.1, fun q hq => hl.2.2 q (zel_mem φ av 0 q hq)⟩
  have hls := zlok.sub hls (zpad_sub M.2.2.1 (zel av))
  refine body (zV p l e (headSpec (zwsX M hh) (rmx n)).room s m (av.map (tv φ)).toArray below meth c M.2.2.1 φ cA D (zA φ s.heap.size) s.heap 0 0 (MQ below (zQc φ cA D (zA φ s.heap.size) Q) (av.map (tv φ)).toArray s 1 6 (zA φ s.heap.size)))
    (zV p l e (headSpec (zwsX M hh) (rmx n)).room s m (av.map (tv φ)).toArray below meth c M.2.2.1 φ cA D (zA φ s.heap.size) s.heap 1 6 (MQ below (zQc φ cA D (zA φ s.heap.size) Q) (av.map (tv φ)).toArray s 1 6 (zA φ s.heap.size)))
    ⟨p, l, e, (headSpec (zwsX M hh) (rmx n)).room, s, m, (av.map (tv φ)).toArray, below, meth, c, φ, cA, D, _, zwsX M hh, rfl, rfl, ⟨hx, hb, hml, hown, hts⟩, fun w hw => List.mem_cons_of_mem _ hw, hK, Nat.le_refl _, Nat.le_refl _, Nat.le_refl _, Nat.le_refl _, hst, htab, hX⟩ ?_ ?_ _ s.heap [] hls hP hD va_S.rf
  · intro v pc L w np hd hQ ls H locs hls hP hD hS
    refine W.widen (k := 1) (n := 6) (Nat.zero_le _) (Nat.zero_le _) ?_
    exact W.zret hx hb (hr.trans hret) rfl (fun t ht hW => ⟨⟨some (.int v), w, rfl, hQ, by rw [ht]; exact hP, hD⟩, hS.F ht⟩) hS.2.2 hd.1
  · intro v pc L w np hd hQ ls H locs hls hP hD hS
    exact W.zret hx hb (hr.trans hret) rfl (fun t ht hW => ⟨⟨some (.int v), w, rfl, hQ, by rw [ht]; exact hP, hD⟩, hS.F ht⟩) hS.2.2 hd.1
