/-! THE CLAIM OUT OF ONE WALK OF THE LAW'S BODY. Your part is whole_start (and what it stands on); all else here is the same for every law, but numbers. -/
def R_law : String := "BowlsWithinLaw"
def lw_P (b : Addr) (xs : List Int32) (args : Array Value) (s : State) : Prop := args = #[.ref b] ∧ s.IntsAt b xs ∧ xs.length ≤ 3072 ∧ (Jvm.Cond.and given_1 narrow_1).before args s = true
def lw_Q (_ : Array Value) (s : State) (o : Outcome) (t : State) : Prop := o = .returned (some (.int 1)) ∧ Framed s o t [] 601024 7293034
def lw_Z (below : List Frame) (a : Array Value) (s : State) : State → Prop := fun t => ∃ o, t.status = .running ∧ Ended t below o ∧ lw_Q a s o t
/-- the law's own end, with 1 on the stack, nothing written that was there before, its room as the claim has it -/
theorem lw_ret {p : Program} {l : Launch} {e : Env} {s : State} {m : MethodId} {below : List Frame} {meth : Method} {c : Code} {b : Nat} (hx : p.tables.exec = Jvm.exec) (hb : c.code = code) (hr : meth.sig.returnType = ret) (hlocks : meth.locks = false) {pc : Nat} {H : Heap} {ls : Array Slot} (hdg : decode code pc = .ok (.ireturn, 1)) : W p l e room_1 s m #[Value.ref b] below meth c H [] 601024 7293034 (lw_Z below #[Value.ref b] s) (F0 m pc ls [.int 1]) := by
  intro T hT X
  obtain ⟨fs, hret, hrun, hended, hW, hframe⟩ := X.leave (v := some (.int 1)) (hlocks := hlocks) (fun h => by rw [hr] at h; cases h)
  have hmeth' : T.vm.method? m = some meth := X.method'
  refine ⟨T.setFrames fs, ?_, .returned (some (.int 1)), hrun, hended, rfl, ⟨_, rfl⟩, hW, hframe⟩
  jvm_step X.here [X.here.top, hx, hb, hdg, hmeth', hr, ret, narrow_b1]
  (try refine ⟨rfl, ?_⟩); (try refine ⟨rfl, ?_⟩)
  first | (intro acts; rw [hret _ acts rfl rfl rfl]) | rw [hret _ _ rfl rfl rfl]
  exact Steps.refl _
/-- what holds at the law's entry: the machine, the code, the tables' words (any of lw_tbl by 'hts w (by decide +kernel)'), the script of L ints xs at the cell b, what the Statement gives of the start (any of its parts by flat_of_before) -/
def lw_At (p : Program) (s : State) (m : MethodId) (meth : Method) (c : Code) (b L : Nat) (xs : Nat → Int32) : Prop :=
  p.tables.exec = Jvm.exec ∧ c.code = code ∧ meth.sig.returnType = ret ∧ c.maxLocals = 8 ∧ s.vm.findClass R_law = some m.cls ∧ (∀ w ∈ lw_tbl, w.before #[Value.ref b] s = true) ∧ va_X b L xs s s.heap ∧ b < s.heap.size ∧ meth.locks = false ∧ (Jvm.Cond.and given_1 narrow_1).before #[Value.ref b] s = true
/-! The law's walk over the fixed world. -/
def lwA (s : State) : Nat → Prop := fun q => s.heap.size ≤ q
/-- a walk of the law, behind its constructors: what holds at each place, ce cells and sl slots made -/
def yLW (len : Nat) (xs : Nat → Int32) (Gc : Nat → Nat → zG) : Prop := ∃ (p : Program) (l : Launch) (e : Env) (s : State) (m : MethodId) (b : Nat) (below : List Frame) (meth : Method) (c : Code) (φ : Nat → Nat) (cA : Nat → ClassId) (D : va_G),
  (∀ ce sl, Gc ce sl = zV p l e room_1 s m #[Value.ref b] below meth c 8 φ cA D (lwA s) s.heap ce sl (lw_Z below #[Value.ref b] s)) ∧ CallFix p m c cL_law 8 s #[Value.ref b] lw_tbl RL ∧ zK D cA s ∧ l.stackTraces = false ∧ zXf (lwA s) s ∧ va_X b len xs s s.heap ∧ b < s.heap.size ∧ φ 72 = b ∧ meth.locks = false ∧ meth.sig.returnType = ret
theorem yLW.zE {len : Nat} {xs : Nat → Int32} {Gc : Nat → Nat → zG} (h : yLW len xs Gc) {ce sl : Nat} (hc : ce ≤ 601024) (hs : sl ≤ 7293034) : zE RL cL_law 8 1000 (Gc ce sl) := by
  obtain ⟨p, l, e, s, m, b, below, meth, c, φ, cA, D, hG, hC, hK, hst, hX, hx, hb, hφ, hlk, hrt⟩ := h
  exact ⟨p, l, e, room_1, s, m, #[Value.ref b], below, meth, c, φ, cA, D, lwA s, s.heap, ce, sl, _, lw_tbl, hG ce sl, hC, fun w hw => (List.mem_filter.mp hw).1, hK, fun q h => h, Nat.le_of_ble_eq_true rfl, Nat.le_of_ble_eq_true rfl, hc, hs⟩
theorem yLW.widen {len : Nat} {xs : Nat → Int32} {Gc : Nat → Nat → zG} (h : yLW len xs Gc) {ce sl ce2 sl2 pc : Nat} {L : zL} {S : List Value} {w : ww} (h1 : ce ≤ ce2) (h2 : sl ≤ sl2) (kk : Gc ce2 sl2 pc L S w) : Gc ce sl pc L S w := by
  obtain ⟨p, l, e, s, m, b, below, meth, c, φ, cA, D, hG, -⟩ := h
  rw [hG] at kk ⊢
  intro ls H locs hls hP hD hS
  exact W.widen h1 h2 (kk ls H locs hls hP hD hS)
theorem yLW.len {len : Nat} {xs : Nat → Int32} {Gc : Nat → Nat → zG} (h : yLW len xs Gc) {ce sl pc np : Nat} {L : zL} {S : List Value} {w : ww} (hd : zD cL_law pc .arraylength 1 np) (kk : Gc ce sl np L (.int (nI len) :: S) w) : Gc ce sl pc L (.ref 72 :: S) w := by
  obtain ⟨p, l, e, s, m, b, below, meth, c, φ, cA, D, hG, ⟨hx, hb, hml, hown, hts⟩, hK, hst, hX, hxs, hbl, hφ, hlk, hrt⟩ := h
  obtain ⟨hd, rfl⟩ := hd
  rw [hG] at kk ⊢
  intro ls H locs hls hP hD hS
  have e : (Value.ref 72 :: S).map (tv φ) = .ref b :: S.map (tv φ) := by simp [tv, hφ]
  rw [e]
  exact va_slen hx hb hxs hbl (Nat.not_le.mpr hbl) hS hd (kk ls H locs hls hP hD hS)
theorem yLW.ld {len : Nat} {xs : Nat → Int32} {Gc : Nat → Nat → zG} (h : yLW len xs Gc) {ce sl pc np : Nat} {L : zL} {S : List Value} {w : ww} {i : Int32} (hd : zD cL_law pc .iaload 1 np) (hin : vp_in i len) (kk : Gc ce sl np L (.int (xs i.toNatClampNeg) :: S) w) : Gc ce sl pc L (.int i :: .ref 72 :: S) w := by
  obtain ⟨p, l, e, s, m, b, below, meth, c, φ, cA, D, hG, ⟨hx, hb, hml, hown, hts⟩, hK, hst, hX, hxs, hbl, hφ, hlk, hrt⟩ := h
  obtain ⟨hd, rfl⟩ := hd
  rw [hG] at kk ⊢
  intro ls H locs hls hP hD hS
  have e : (Value.int i :: Value.ref 72 :: S).map (tv φ) = .int i :: .ref b :: S.map (tv φ) := by simp [tv, hφ]
  rw [e]
  exact va_sld hx hb hxs hbl (Nat.not_le.mpr hbl) hS hin hd (kk ls H locs hls hP hD hS)
/-- the law's end: 1 -/
theorem yLW.ret {len : Nat} {xs : Nat → Int32} {Gc : Nat → Nat → zG} (h : yLW len xs Gc) {ce sl pc np : Nat} {L : zL} {w : ww} (hc : ce ≤ 601024) (hs : sl ≤ 7293034) (hd : zD cL_law pc .ireturn 1 np) : Gc ce sl pc L [.int 1] w := by
  obtain ⟨p, l, e, s, m, b, below, meth, c, φ, cA, D, hG, ⟨hx, hb, hml, hown, hts⟩, hK, hst, hX, hxs, hbl, hφ, hlk, hrt⟩ := h
  rw [hG]
  intro ls H locs hls hP hD hS
  refine va_forget (fun q hq => hS.2.2 q hq) ?_
  refine W.widen (k := 601024) (n := 7293034) hc hs ?_
  exact lw_ret hx hb hrt hlk hd.1
set_option maxHeartbeats 2000000 in
/-- a call of a method of the class that may make an exception and catches it -/
theorem yLW.callV {len : Nat} {xs : Nat → Int32} {Gc : Nat → Nat → zG} (h : yLW len xs Gc) {ce sl pc np idx k o ci j : Nat} {fl : List (Option Nat)} {q : vw_C} {M : zM} {hh : List (Nat × Nat × Nat × Nat)} {As : List Value} {L : zL} {S : List Value} {w : ww} (hc : ce + 1 ≤ 601024) (hsl : sl + 6 ≤ 7293034) (hd : zD cL_law pc (.invokevirtual idx) 3 np)
    (hlk : Cond.methodLink RL idx M.1 ∈ big) (hcode : Cond.codeWith M.1 M.2.1 M.2.2.1 M.2.2.2 hh ∈ big) (hini : Cond.initialized M.1.cls ∈ big) (hinst : Cond.instanceMethod M.1 ∈ big) (hsel : Cond.selects M.1.cls M.1 M.1 ∈ big) (hmh : M.1.cls ≠ "java/lang/invoke/MethodHandle" ∧ M.1.cls ≠ "java/lang/invoke/VarHandle") (hpar : (parseMethodDescriptor M.1.desc).map (fun d => d.parameters.length) = some j) (h30 : M.2.2.1 ≤ 30)
    (hs : zshapes[o]? = some (zob ci fl)) (hq : vwCl[ci]? = some q) (hqc : q.1 = M.1.cls) (hn : k ≤ 1000) (hlen : As.length = j) (hcat : zcat S ≤ 8)
    (hC : CtX M hh k (.ref o :: As) w (fun r w' => Gc (ce + 1) (sl + 6) np L (zpush r S) w')) : Gc ce sl pc L (As.reverse ++ .ref o :: S) w := by
  obtain ⟨p, l, e, s, m, b, below, meth, c, φ, cA, D, hG, hCF, hK, hst, hX, hxs, hbl, hφ, hlo, hrt⟩ := h
  have hCF' := hCF
  obtain ⟨hx, hb, hml, hown, hts⟩ := hCF'
  obtain ⟨hd, rfl⟩ := hd
  rw [hG]
  intro ls H locs hls hP hD hS
  have hB : ∀ w ∈ big, w ∈ lw_tbl := fun w hw => (List.mem_filter.mp hw).1
  have hM := hC l hst φ cA D H.size
  have hin := zA_in hD hS (fun q h => h)
  have hPre : PreV s H M.1.cls (φ o) (va_Pc ((Value.ref o :: As).map (tv φ)) (zBX φ cA D w H.size)) (As.map (tv φ)) :=
    ⟨zX_blind, by have := va_recv hK.1 hP hq (zWS_get hs); rw [hqc] at this; exact this, fun U hU hW => ⟨by simp [tv], ⟨by rw [hU], by rw [hU]; exact hP, hK.warm hW, hD.weaken (fun _ _ _ _ => trivial)⟩, hX.move hW (by rw [hU]; exact hS) hin⟩⟩
  have hR1 : (rmx k).frames + 1 ≤ room_1.frames := by show k + 1 ≤ 2048; omega
  have hR2 : 8 + (M.2.2.1 + 11) + (rmx k).locals ≤ room_1.locals := by show 8 + (M.2.2.1 + 11) + 60 * k ≤ 84000; omega
  have hstk : ((As.reverse ++ .ref o :: S).map (tv φ)) = (As.map (tv φ)).reverse ++ .ref (φ o) :: S.map (tv φ) := by simp [tv]
  rw [hstk]
  have hcat' : 2 * (F0 m pc ls ((As.map (tv φ)).reverse ++ .ref (φ o) :: S.map (tv φ))).monitorRoom + ((S.map (tv φ)).map fun v => v.category).sum ≤ 8 := lv_room (by rw [zcat_tv]; exact hcat)
  have hgood : GoodIn lw_tbl (zwsX M hh) := by
    intro w hw
    rcases List.mem_cons.mp hw with rfl | hw
    · exact ⟨hB _ hcode, big_good hcode⟩
    · exact ⟨hB _ hw, big_good hw⟩
  have cw : vx_CVW room_1 s #[Value.ref b] RL M.1.cls idx M.1 M.2.1 M.2.2.1 M.2.2.2 hh (zwsX M hh) (rmx k) 1 6 j := by
    refine ⟨⟨rfl, rfl, hR1, hR2, pay_in hts hgood, List.mem_cons_self⟩, hts _ (hB _ hcode), hts _ (hB _ hini), hmh, fun sig h => ?_, hts _ (hB _ hlk), hts _ (hB _ hinst), hts _ (hB _ hsel)⟩
    rw [h] at hpar
    exact (Option.some.inj hpar).symm
  refine z_behindM (mc := 1) (ms := 6) (vx_runVW hCF hM cw hPre rfl (by simpa using hlen) hls.1 rfl hcat' hd ⟨hc, hsl⟩) hls hD hS (fun q h => h) (fun r w' hq => ?_)
  rw [hG] at hq
  exact hq
set_option maxHeartbeats 2000000 in
theorem yLW.callS {len : Nat} {xs : Nat → Int32} {Gc : Nat → Nat → zG} (h : yLW len xs Gc) {ce sl pc np idx k j : Nat} {M : zM} {hh : List (Nat × Nat × Nat × Nat)} {As : List Value} {L : zL} {S : List Value} {w : ww} (hc : ce + 1 ≤ 601024) (hsl : sl + 6 ≤ 7293034) (hd : zD cL_law pc (.invokestatic idx) 3 np)
    (hlk : Cond.methodLink RL idx M.1 ∈ big) (hcode : Cond.codeWith M.1 M.2.1 M.2.2.1 M.2.2.2 hh ∈ big) (hini : Cond.initialized M.1.cls ∈ big) (hstat : Cond.static M.1 ∈ big) (hmh : M.1.cls ≠ "java/lang/invoke/MethodHandle" ∧ M.1.cls ≠ "java/lang/invoke/VarHandle") (hpar : (parseMethodDescriptor M.1.desc).map (fun d => d.parameters.length) = some j) (h30 : M.2.2.1 ≤ 30)
    (hn : k ≤ 1000) (hlen : As.length = j) (hcat : zcat S ≤ 8)
    (hC : CtX M hh k As w (fun r w' => Gc (ce + 1) (sl + 6) np L (zpush r S) w')) : Gc ce sl pc L (As.reverse ++ S) w := by
  obtain ⟨p, l, e, s, m, b, below, meth, c, φ, cA, D, hG, hCF, hK, hst, hX, hxs, hbl, hφ, hlo, hrt⟩ := h
  have hCF' := hCF
  obtain ⟨hx, hb, hml, hown, hts⟩ := hCF'
  obtain ⟨hd, rfl⟩ := hd
  rw [hG]
  intro ls H locs hls hP hD hS
  have hB : ∀ w ∈ big, w ∈ lw_tbl := fun w hw => (List.mem_filter.mp hw).1
  have hM := hC l hst φ cA D H.size
  have hin := zA_in hD hS (fun q h => h)
  have hPre : PreS s H (va_Pc (As.map (tv φ)) (zBX φ cA D w H.size)) (As.map (tv φ)) :=
    ⟨zX_blind, fun U hU hW => ⟨rfl, ⟨by rw [hU], by rw [hU]; exact hP, hK.warm hW, hD.weaken (fun _ _ _ _ => trivial)⟩, hX.move hW (by rw [hU]; exact hS) hin⟩⟩
  have hR1 : (rmx k).frames + 1 ≤ room_1.frames := by show k + 1 ≤ 2048; omega
  have hR2 : 8 + (M.2.2.1 + 11) + (rmx k).locals ≤ room_1.locals := by show 8 + (M.2.2.1 + 11) + 60 * k ≤ 84000; omega
  have hstk : ((As.reverse ++ S).map (tv φ)) = (As.map (tv φ)).reverse ++ S.map (tv φ) := by simp
  rw [hstk]
  have hcat' : 2 * (F0 m pc ls ((As.map (tv φ)).reverse ++ S.map (tv φ))).monitorRoom + ((S.map (tv φ)).map fun v => v.category).sum ≤ 8 := lv_room (by rw [zcat_tv]; exact hcat)
  have hgood : GoodIn lw_tbl (zwsX M hh) := by
    intro w hw
    rcases List.mem_cons.mp hw with rfl | hw
    · exact ⟨hB _ hcode, big_good hcode⟩
    · exact ⟨hB _ hw, big_good hw⟩
  have cw : vx_CSW room_1 s #[Value.ref b] RL idx M.1 M.2.1 M.2.2.1 M.2.2.2 hh (zwsX M hh) (rmx k) 1 6 j := by
    refine ⟨⟨rfl, rfl, hR1, hR2, pay_in hts hgood, List.mem_cons_self⟩, hts _ (hB _ hcode), hts _ (hB _ hini), hmh, fun sig h => ?_, hts _ (hB _ hlk), hts _ (hB _ hstat)⟩
    rw [h] at hpar
    exact (Option.some.inj hpar).symm
  refine z_behindM (mc := 1) (ms := 6) (vx_runSW hCF hM cw hPre rfl (by simpa using hlen) hls.1 rfl hcat' hd ⟨hc, hsl⟩) hls hD hS (fun q h => h) (fun r w' hq => ?_)
  rw [hG] at hq
  exact hq
theorem zr_lald {own : String} {cc : ByteArray} {nL n : Nat} {G : zG} {pc np : Nat} {L : zL} {S : List Value} {w : ww} (h : zE own cc nL n G) {o N : Nat} {i : Int32} (hd : zD cc pc .laload 1 np) (hs : zshapes[o]? = some (zla N)) (hin : vp_in i N) (kk : G np L (.long (w o i.toNatClampNeg).toInt64 :: S) w) : G pc L (.int i :: .ref o :: S) w := by
  refine h.elim fun p l e R s m args below meth c φ cA D A H0 cells slots Qm Ts hG hC hB hK hA hn1 hn2 hn3 hn4 => ?_
  subst hG
  obtain ⟨hx, hb, hml, hown, hts⟩ := hC
  obtain ⟨hd, rfl⟩ := hd
  intro ls H locs hls hP hD hS
  exact va_lald hx hb hK.1 hP o 3 (zWS_get hs) rfl hin hd (kk ls H locs hls hP hD hS)
theorem zlok.set2 {φ : Nat → Nat} {ls' : Array Slot} {nL : Nat} {L : zL} {i : Nat} {v : Value} (hn : znl L = true) (h7 : ∀ u, ¬ L[i + 1]? = some (some u))
    (h : lv_has ls' nL ((i, tv φ v) :: (zas φ 0 L).filter (fun q => !(q.1 == i) && (!(q.1 == i + 1) && !(q.1 + 1 == i && q.2.category == 2))))) : zlok φ ls' nL (L.set i (some v)) := by
  refine ⟨h.1, h.2.1, fun q hq => h.2.2 q ?_⟩
  obtain ⟨k, u, hk, rfl⟩ := (zas_mem _ 0 q).mp hq
  simp only [Nat.zero_add]
  by_cases hki : k = i
  · subst hki
    have hl : k < L.length := by
      have := (List.getElem?_eq_some_iff.mp hk).1
      simpa using this
    rw [List.getElem?_set_self hl] at hk
    cases hk
    exact List.mem_cons_self
  · rw [List.getElem?_set_ne (Ne.symm hki)] at hk
    refine List.mem_cons_of_mem _ (List.mem_filter.mpr ⟨(zas_mem L 0 _).mpr ⟨k, u, hk, by simp⟩, ?_⟩)
    have hc := znl_cat hn hk
    have hk7 : ¬ k = i + 1 := by
      rintro rfl
      exact h7 u hk
    simp [hki, hk7, tv_cat, hc]
theorem zr_lstore {own : String} {cc : ByteArray} {nL n : Nat} {G : zG} {pc np : Nat} {L : zL} {S : List Value} {w : ww} (h : zE own cc nL n G) {k : Nat} (hd : zD cc pc (.lstore k) 2 np) {x : Int64} (hi : k + 1 < nL) (hz : znl L = true) (h7 : ∀ u, ¬ L[k + 1]? = some (some u)) (kk : G np (L.set k (some (.long x))) S w) : G pc L (.long x :: S) w := by
  refine h.elim fun p l e R s m args below meth c φ cA D A H0 cells slots Qm Ts hG hC hB hK hA hn1 hn2 hn3 hn4 => ?_
  subst hG
  obtain ⟨hx, hb, hml, hown, hts⟩ := hC
  obtain ⟨hd, rfl⟩ := hd
  intro ls H locs hls hP hD hS
  exact lv_lstore hx hb hd hls hi rfl (fun ls1 h1 => kk ls1 H locs (zlok.set2 (v := .long x) hz h7 h1) hP hD hS)
/-- an int of the script: of call j its place a -/
theorem yLW.arg {len : Nat} {xs : Nat → Int32} {Gc : Nat → Nat → zG} (h : yLW len xs Gc) {ce sl pc n1 n2 n3 n4 n5 a j : Nat} {k : Int} {L : zL} {S : List Value} {w : ww} (hc : ce ≤ 601024) (hsl : sl ≤ 7293034) (hL : 6 * j + 6 ≤ len) (hL2 : len ≤ 3072) (d1 : zD cL_law pc (.aload_n 0) 1 n1) (d2 : zD cL_law n1 (.iload 4) 2 n2) (d3 : zD cL_law n2 (.iconst k) 1 n3) (d4 : zD cL_law n3 .iadd 1 n4) (d5 : zD cL_law n4 .iaload 1 n5) (hk : Int32.ofInt k = nI a) (ha : a < 6)
    (h0 : L[0]? = some (some (.ref 72))) (h4 : L[4]? = some (some (.int (nI (6 * j))))) (kk : Gc ce sl n5 L (.int (xs (6 * j + a)) :: S) w) : Gc ce sl pc L S w := by
  have hE := h.zE hc hsl
  refine zr_aload_n hE d1 h0 ?_
  refine zr_iload hE d2 h4 ?_
  refine zr_iconst hE d3 hk ?_
  refine zr_iadd hE d4 ?_
  rw [nI_add]
  refine h.ld d5 (vpn (by omega) (by omega)) ?_
  rw [nI_clamp (by omega)]
  exact kk
