/-! Constructors: contracts and calls. -/
def yB (D : va_G) (tys : yT) (ws : va_W) (sz : Nat) : State → Prop := fun U => U.heap.size = sz ∧ va_P D vwCl ws U.heap ∧ yK D tys U ∧ va_D (fun _ => True) ws
def yrm (n mc ms : Nat) : Room := { frames := n, cells := mc, slots := ms, locals := 60 * n }
def yQ (D : va_G) (ws : va_W) (sz : Nat) (U : Type) (tys2 : U → yT) (post : U → va_W) : Array Value → State → Outcome → State → Prop := va_Qv (fun _ : U => True) (fun u t => va_P D vwCl (post u) t.heap ∧ va_K D vwCl (tys2 u) t ∧ va_D (va_A ws sz) (post u)) (va_A ws sz)
def Yc (y : MethodName) (b : ByteArray) (k n mc ms : Nat) (tys : yT) (av : List Value) (ws : va_W) (U : Type) (tys2 : U → yT) (post : U → va_W) : Prop := ∀ (l : Launch) (D : va_G) (sz : Nat),
  Met l y (zws (y, b, k, none)) (yrm n mc ms) (va_Pc av (yB D tys ws sz)) (yQ D ws sz U tys2 post) mc ms (va_A ws sz)
theorem fm_of {α β : Type} {f : α → Option β} : ∀ {l : List α} {r : List β}, l.map f = r.map some → l.filterMap f = r
  | [], [], _ => rfl
  | [], b :: r, h => by simp at h
  | a :: l, [], h => by simp at h
  | a :: l, b :: r, h => by
    simp only [List.map_cons, List.cons.injEq] at h
    rw [List.filterMap_cons, h.1, fm_of h.2]
theorem tv_id (v : Value) : tv id v = v := by cases v <;> rfl
theorem map_tv_id (l : List Value) : l.map (tv id) = l := by
  rw [show (tv id) = id from funext tv_id, List.map_id]
set_option maxHeartbeats 2000000 in
theorem Yc.of {y : MethodName} {b : ByteArray} {k n mc ms : Nat} {tys : yT} {av : List Value} {ws : va_W} {U : Type} {tys2 : U → yT} {post : U → va_W} (hp : plainName y.cls = true) (hin : y.name = "<init>") (hlen : (zel av).length ≤ k) (hfit : (lg_sl av).length ≤ k)
    (body : ∀ G : yG, yE y.cls b k n mc ms true G → (∀ (pc np : Nat) (L : zL) (tys' : yT) (ws' : va_W) (ce sl : Nat), zD b pc .return_ 1 np → ce ≤ mc → sl ≤ ms → (∃ (u : U) (pl : List Nat), va_nd pl = true ∧ pl.map (fun i => ws'[i]?) = (post u).map some ∧ tys' = tys2 u) → G pc L [] tys' ws' ce sl) → G 0 (zpad k (zel av)) [] tys ws 0 0) : Yc y b k n mc ms tys av ws U tys2 post := by
  intro l D sz
  refine Met.ofW (cc := b) (maxL := k) (ret := none) hp rfl ?_
  intro p e s m args below meth c s₁ B hml hv
  obtain ⟨rfl, rfl, hP, hK, hD0⟩ := hv
  have hx := B.exec
  have hb := B.bytes
  have hr := B.returns
  have hts := atoms_spec (ws := zws (y, b, k, none)) B.pre
  have hown : s.vm.findClass y.cls = some m.cls := findClass_of_methodNamed B.named
  have hname : meth.name = "<init>" := (name_of_methodNamed B.named B.method).1.trans hin
  have hD := hD0.self (sz := s.heap.size)
  rw [lg_entry_eq]
  have hl := lv_entry av (n := k) hfit
  have hls : zlok id ((lg_sl av ++ List.replicate (k - (lg_sl av).length) Slot.unset).toArray) k (zel av) :=
    ⟨hl.1, hl.2.1, fun q hq => hl.2.2 q (by have := zel_mem id av 0 q hq; rw [map_tv_id] at this; exact this)⟩
  have hls := zlok.sub hls (zpad_sub k (zel av))
  refine body (yV p l e (headSpec (zws (y, b, k, none)) (yrm n mc ms)).room s m av.toArray below meth c k D (va_A ws s.heap.size) s.heap (MQ below (yQ D ws s.heap.size U tys2 post) av.toArray s mc ms (va_A ws s.heap.size))) ⟨p, l, e, (headSpec (zws (y, b, k, none)) (yrm n mc ms)).room, s, m, av.toArray, below, meth, c, D, va_A ws s.heap.size, s.heap, _, zws (y, b, k, none), rfl, ⟨hx, hb, hml, hown, hts⟩, fun w hw => List.mem_cons_of_mem _ hw, ⟨hK.1.sub [] rfl, hK.2⟩, fun q h => Or.inr h, ⟨Nat.le_refl _, Nat.le_refl _, Nat.le_refl _, Nat.le_refl _⟩, fun _ => hname⟩ ?_ _ s.heap [] hls hK.1 hP hD va_S.rf
  intro pc np L tys' ws' ce sl hd h1 h2 ⟨u, pl, hnd, hmap, htys⟩ ls H locs hls hK2 hP2 hD2 hS2
  refine W.widen (k := mc) (n := ms) h1 h2 ?_
  exact W.vret hx hb hr (fun t ht hW => ⟨⟨u, rfl, trivial, by rw [ht]; exact hP2.sub pl (fm_of hmap), va_K.moved hW.alike (htys ▸ hK2), hD2.sub pl hnd hmap⟩, hS2.F ht⟩) hS2.2.2 hd.1
theorem y_blind {D : va_G} {tys : yT} {ws : va_W} {sz : Nat} {av : List Value} : FrameBlind (va_Pc av (yB D tys ws sz)) := by
  intro a U g mk q
  obtain ⟨q0, q1, qP, qK, qD⟩ := q
  exact ⟨q0, q1, qP, yK.same (u := U) (U := U.calling g mk a) rfl qK, qD⟩
set_option maxHeartbeats 2000000 in
theorem yr_call {own : String} {cc : ByteArray} {nL n mc ms : Nat} {isI : Bool} {G : yG} {pc np : Nat} {L : zL} {S : List Value} {tys : yT} {ws : va_W} {ce sl : Nat} (h : yE own cc nL n mc ms isI G) {idx j k n2 mc2 ms2 a : Nat} {y : MethodName} {b : ByteArray} {As : List Value} {U : Type} {tysC : yT} {wc wr : va_W} {tys2 : U → yT} {post : U → va_W} (tysN : U → yT) (hd : zD cc pc (.invokespecial idx) 3 np) (hl : zLn own idx (y, b, k, none) j) (hinst : Cond.instanceMethod y ∈ big) (hy : y.name = "<init>")
    (hc : Yc y b k n2 mc2 ms2 tysC (.ref a :: As) wc U tys2 post) (hlen : As.length = j) (isK isC isR : List Nat) (hKs : isK.filterMap (fun i => tys[i]?) = tysC) (hC : isC.map (fun i => ws[i]?) = wc.map some) (hRs : isR.map (fun i => ws[i]?) = wr.map some) (hnC : va_nd isC = true) (hnR : va_nd isR = true) (hdis : ∀ i ∈ isR, i ∉ isC) (hfr : n2 + 1 ≤ n) (h1 : ce + mc2 ≤ mc) (h2 : sl + ms2 ≤ ms) (hcat : zcat S ≤ 8)
    (hT : ∀ (u : U) (D : va_G) (s : State), va_K D vwCl tys s → va_K D vwCl (tys2 u) s → va_K D vwCl (tysN u) s) (kk : ∀ u : U, G np L S (tysN u) (wr ++ post u) (ce + mc2) (sl + ms2)) : G pc L (As.reverse ++ .ref a :: S) tys ws ce sl := by
  refine h.elim fun p l e R s m args below meth c D A H0 Qm Ts hG hC0 hB hK0 hA hR hI => ?_
  subst hG
  have hC1 := hC0
  obtain ⟨hx, hb, hml, hown, hts⟩ := hC1
  obtain ⟨hd, rfl⟩ := hd
  intro ls H locs hls hK hP hD hS
  obtain ⟨hlk, hcode, hini, ⟨hm1, hm2, hpar⟩, h30⟩ := hl
  have hM := hc l D H.size
  have hPc := hP.sub isC (fm_of hC)
  have hDc := hD.sub isC hnC hC
  have hKc := hK.sub isK hKs
  have hFc := va_free hD hS hA isC hC
  have hPre : PreS s H (va_Pc (.ref a :: As) (yB D tysC wc H.size)) (.ref a :: As) :=
    ⟨y_blind, fun U2 hU hW => ⟨rfl, by rw [hU], by rw [hU]; exact hPc, ⟨va_K.moved hW.alike hKc, (hK0.warm hW).2⟩, hDc.weaken (fun _ _ _ _ => trivial)⟩⟩
  have hR1 : (yrm n2 mc2 ms2).frames + 1 ≤ R.frames := Nat.le_trans hfr hR.1
  have hR2 : 8 + (k + 11) + (yrm n2 mc2 ms2).locals ≤ R.locals := by
    have h3 := hR.2.1
    have h30' : k ≤ 30 := h30
    show 8 + (k + 11) + 60 * n2 ≤ R.locals
    omega
  have hcat' : 2 * (F0 m pc ls (As.reverse ++ .ref a :: S)).monitorRoom + (S.map fun v => v.category).sum ≤ 8 := lv_room hcat
  have run : va_Run p l e R s m args below meth c H locs ce sl mc2 ms2 (F0 m pc ls (As.reverse ++ .ref a :: S)) S (yQ D wc H.size U tys2 post (Value.ref a :: As).toArray) (va_A wc H.size) := by
    rcases hlk with hlk | ⟨host, hlk⟩
    · exact va_runI hC0 hM ⟨callB_of j hts (zws_good hB hcode) rfl rfl rfl (hts _ (hB _ hini)) (hts _ (hB _ hlk)) ⟨hm1, hm2, hpar⟩ ⟨hR1, hR2⟩, hy, hts _ (hB _ hinst)⟩ hPre rfl hlen hls.1 rfl hcat' hd ⟨Nat.le_trans h1 hR.2.2.1, Nat.le_trans h2 hR.2.2.2⟩
    · exact va_runIN hC0 hM ⟨va_cnB j hts (zws_good hB hcode) rfl rfl rfl (hK0.2.1 _ hlk) (hts _ (hB _ hini)) ⟨hm1, hm2, hpar⟩ ⟨hR1, hR2⟩, hy, hts _ (hB _ hinst)⟩ hPre rfl hlen hls.1 rfl hcat' hd ⟨Nat.le_trans h1 hR.2.2.1, Nat.le_trans h2 hR.2.2.2⟩
  refine va_callv run hS (fun q _ hq => hFc q hq) hFc (fun u t H1 locs1 ht hvm _ hB1 hsz hk1 hS1 => ?_)
  obtain ⟨hP1, hK1, hD1⟩ := hB1
  rw [ht] at hP1
  obtain ⟨hP9, hD9⟩ := va_join hP hD isC isR hC hRs hnR hdis hk1 hFc hP1 hD1
  exact kk u ls H1 locs1 hls (hT u D s hK (va_K.moved hvm.symm hK1)) hP9 hD9 hS1
