/-! Contracts over the fixed world, and calls. -/
/-- a method: its name, code, locals, what it returns -/
abbrev zM : Type := MethodName × ByteArray × Nat × Option FieldType
def zws (M : zM) : List Cond := Cond.code M.1 M.2.1 M.2.2.1 M.2.2.2 :: big
def zrm (n : Nat) : Room := { frames := n, cells := 0, slots := 0, locals := 60 * n }
def zA (φ : Nat → Nat) (sz : Nat) : Nat → Prop := fun q => (∃ o, o < zshapes.length ∧ q = φ o) ∨ sz ≤ q
def zB (φ : Nat → Nat) (cA : Nat → ClassId) (D : va_G) (w : ww) (sz : Nat) : State → Prop := fun U => U.heap.size = sz ∧ va_P D vwCl (zWS φ cA w) U.heap ∧ zK D cA U ∧ va_D (fun _ => True) (zWS φ cA w)
def zQc (φ : Nat → Nat) (cA : Nat → ClassId) (D : va_G) (A : Nat → Prop) (Q : Option Value → ww → Prop) : Array Value → State → Outcome → State → Prop := fun _ st oc t =>
  (∃ (r : Option Value) (w : ww), oc = .returned (r.map (tv φ)) ∧ Q r w ∧ va_P D vwCl (zWS φ cA w) t.heap ∧ va_D A (zWS φ cA w)) ∧ va_F A st t
def Ct (M : zM) (n : Nat) (av : List Value) (w : ww) (Q : Option Value → ww → Prop) : Prop := ∀ (l : Launch) (φ : Nat → Nat) (cA : Nat → ClassId) (D : va_G) (sz : Nat),
  Met l M.1 (zws M) (zrm n) (va_Pc (av.map (tv φ)) (zB φ cA D w sz)) (zQc φ cA D (zA φ sz) Q) 0 0 (zA φ sz)
def zel : List Value → zL
  | [] => []
  | v :: l => match v with
    | .long x => some (.long x) :: none :: zel l
    | .double x => some (.double x) :: none :: zel l
    | v => some v :: zel l
def zpad : Nat → zL → zL
  | 0, _ => []
  | n + 1, [] => none :: zpad n []
  | n + 1, a :: l => a :: zpad n l
theorem zpad_sub : ∀ (n : Nat) (L : zL) (k : Nat) (v : Value), (zpad n L)[k]? = some (some v) → L[k]? = some (some v)
  | 0, L, k, v, h => by simp [zpad] at h
  | n + 1, [], 0, v, h => by simp [zpad] at h
  | n + 1, [], k + 1, v, h => by
    have := zpad_sub n [] k v (by simpa [zpad] using h)
    simp at this
  | n + 1, a :: l, 0, v, h => by simpa [zpad] using h
  | n + 1, a :: l, k + 1, v, h => by
    simpa using zpad_sub n l k v (by simpa [zpad] using h)
theorem zel_mem (φ : Nat → Nat) : ∀ (vs : List Value) (j : Nat), ∀ q ∈ zas φ j (zel vs), q ∈ lv_args j (vs.map (tv φ))
  | [], j, q, h => by simp [zel, zas] at h
  | v :: l, j, q, h => by
    cases v with
    | long x =>
      simp only [zel, zas, List.mem_cons] at h
      rcases h with rfl | h
      · simp [lv_args]
      · have := zel_mem φ l (j + 1 + 1) q h
        simp [lv_args, tv, Value.category] at this ⊢
        exact Or.inr this
    | double x =>
      simp only [zel, zas, List.mem_cons] at h
      rcases h with rfl | h
      · simp [lv_args]
      · have := zel_mem φ l (j + 1 + 1) q h
        simp [lv_args, tv, Value.category] at this ⊢
        exact Or.inr this
    | int x =>
      simp only [zel, zas, List.mem_cons] at h
      rcases h with rfl | h
      · simp [lv_args]
      · have := zel_mem φ l (j + 1) q h
        simp [lv_args, tv, Value.category] at this ⊢
        exact Or.inr this
    | float x =>
      simp only [zel, zas, List.mem_cons] at h
      rcases h with rfl | h
      · simp [lv_args]
      · have := zel_mem φ l (j + 1) q h
        simp [lv_args, tv, Value.category] at this ⊢
        exact Or.inr this
    | null =>
      simp only [zel, zas, List.mem_cons] at h
      rcases h with rfl | h
      · simp [lv_args]
      · have := zel_mem φ l (j + 1) q h
        simp [lv_args, tv, Value.category] at this ⊢
        exact Or.inr this
    | ref x =>
      simp only [zel, zas, List.mem_cons] at h
      rcases h with rfl | h
      · simp [lv_args]
      · have := zel_mem φ l (j + 1) q h
        simp [lv_args, tv, Value.category] at this ⊢
        exact Or.inr this
    | retAddr x =>
      simp only [zel, zas, List.mem_cons] at h
      rcases h with rfl | h
      · simp [lv_args]
      · have := zel_mem φ l (j + 1) q h
        simp [lv_args, tv, Value.category] at this ⊢
        exact Or.inr this
theorem zA_big {φ : Nat → Nat} {cA : Nat → ClassId} {w : ww} {sz : Nat} {B : Nat → Prop} (hD : va_D B (zWS φ cA w)) : va_D (zA φ sz) (zWS φ cA w) := by
  refine ⟨hD.1, fun k q hk => Or.inl ⟨k, ?_, ?_⟩⟩
  · have := (List.getElem?_eq_some_iff.mp hk).1
    simpa [zWS] using this
  · simp only [zWS, List.getElem?_mapIdx, Option.map_eq_some_iff] at hk
    obtain ⟨a, -, rfl⟩ := hk
    rfl
set_option maxHeartbeats 2000000 in
/-- a contract out of a walk of its body -/
theorem Ct.of {M : zM} {n : Nat} {av : List Value} {w : ww} {Q : Option Value → ww → Prop} (hp : plainName M.1.cls = true) (hlen : (zel av).length ≤ M.2.2.1) (hfit : ∀ φ : Nat → Nat, (lg_sl (av.map (tv φ))).length ≤ M.2.2.1)
    (body : ∀ G : zG, zR M.1.cls M.2.1 M.2.2.1 n M.2.2.2 Q G → G 0 (zpad M.2.2.1 (zel av)) [] w) : Ct M n av w Q := by
  intro l φ cA D sz
  refine Met.ofW (cc := M.2.1) (maxL := M.2.2.1) (ret := M.2.2.2) hp rfl ?_
  intro p e s m args below meth c s₁ B hml hv
  obtain ⟨rfl, rfl, hP, hK, hD0⟩ := hv
  have hx := B.exec
  have hb := B.bytes
  have hr := B.returns
  have hts := atoms_spec (ws := zws M) B.pre
  have hown : s.vm.findClass M.1.cls = some m.cls := findClass_of_methodNamed B.named
  have hlocks := B.notSynchronized
  have hD := zA_big (sz := s.heap.size) hD0
  rw [lg_entry_eq]
  have hl := lv_entry (av.map (tv φ)) (n := M.2.2.1) (hfit φ)
  have hls : zlok φ ((lg_sl (av.map (tv φ)) ++ List.replicate (M.2.2.1 - (lg_sl (av.map (tv φ))).length) Slot.unset).toArray) M.2.2.1 (zel av) :=
    ⟨hl.1, hl.2.1, fun q hq => hl.2.2 q (zel_mem φ av 0 q hq)⟩
  have hls := zlok.sub hls (zpad_sub M.2.2.1 (zel av))
  refine body (zV p l e (headSpec (zws M) (zrm n)).room s m (av.map (tv φ)).toArray below meth c M.2.2.1 φ cA D (zA φ s.heap.size) s.heap 0 0 (MQ below (zQc φ cA D (zA φ s.heap.size) Q) (av.map (tv φ)).toArray s 0 0 (zA φ s.heap.size))) ⟨⟨p, l, e, (headSpec (zws M) (zrm n)).room, s, m, (av.map (tv φ)).toArray, below, meth, c, φ, cA, D, zA φ s.heap.size, s.heap, 0, 0, _, zws M, rfl, ⟨hx, hb, hml, hown, hts⟩, fun w hw => List.mem_cons_of_mem _ hw, hK, fun q h => Or.inr h, Nat.le_refl _, Nat.le_refl _, Nat.zero_le _, Nat.zero_le _⟩, ?_, ?_, ?_⟩ _ s.heap [] hls hP hD va_S.rf
  · intro ty v pc L w np hd hret hn hQ ls H locs hls hP hD hS
    exact W.zret hx hb (hr.trans hret) hn (fun t ht hW => ⟨⟨some (.int v), w, rfl, hQ, by rw [ht]; exact hP, hD⟩, hS.F ht⟩) hS.2.2 hd.1
  · intro v pc L w np hd hret hQ ls H locs hls hP hD hS
    exact W.lret hx hb (hr.trans hret) (fun t ht hW => ⟨⟨some (.long v), w, rfl, hQ, by rw [ht]; exact hP, hD⟩, hS.F ht⟩) hS.2.2 hd.1
  · intro pc L w np hd hret hQ ls H locs hls hP hD hS
    exact W.vret hx hb (hr.trans hret) (fun t ht hW => ⟨⟨none, w, rfl, hQ, by rw [ht]; exact hP, hD⟩, hS.F ht⟩) hS.2.2 hd.1
def zpush : Option Value → List Value → List Value
  | none, S => S
  | some v, S => v :: S
theorem zpush_map (φ : Nat → Nat) (r : Option Value) (S : List Value) : (r.map (tv φ)).toList ++ S.map (tv φ) = (zpush r S).map (tv φ) := by cases r <;> simp [zpush]
def zcat (S : List Value) : Nat := (S.map fun v => v.category).sum
theorem zcat_tv (φ : Nat → Nat) (S : List Value) : ((S.map (tv φ)).map fun v => v.category).sum = zcat S := by
  unfold zcat
  rw [List.map_map]
  congr 1
  exact List.map_congr_left (fun v _ => tv_cat φ v)
section ZCalls
variable {p : Program} {l : Launch} {e : Env} {R : Room} {s : State} {m : MethodId} {args : Array Value} {below : List Frame} {meth : Method} {c : Code} {φ : Nat → Nat} {cA : Nat → ClassId} {D : va_G} {A : Nat → Prop} {H0 : Heap} {cells slots : Nat} {Qm : State → Prop}
theorem zA_in {w : ww} {H : Heap} {locs : List Loc} (hD : va_D A (zWS φ cA w)) (hS : va_S A H0 H locs) (hA : ∀ q, H0.size ≤ q → A q) : ∀ q, zA φ H.size q → A q := by
  intro q hq
  rcases hq with ⟨o, ho, rfl⟩ | hq
  · obtain ⟨sh, hsh⟩ : ∃ sh, zshapes[o]? = some sh := ⟨_, List.getElem?_eq_getElem ho⟩
    exact hD.2 o _ (zWS_get hsh)
  · exact hA q (Nat.le_trans hS.1 hq)
/-- behind a call -/
theorem z_behind {nL pc : Nat} {L : zL} {ls : Array Slot} {H : Heap} {locs : List Loc} {S st0 : List Value} {a : Array Value} {w : ww} {Q : Option Value → ww → Prop}
    (hr : va_Run p l e R s m args below meth c H locs cells slots 0 0 (F0 m pc ls st0) (S.map (tv φ)) (zQc φ cA D (zA φ H.size) Q a) (zA φ H.size)) (hls : zlok φ ls nL L) (hD : va_D A (zWS φ cA w)) (hS : va_S A H0 H locs) (hA : ∀ q, H0.size ≤ q → A q)
    (kk : ∀ r w', Q r w' → zV p l e R s m args below meth c nL φ cA D A H0 cells slots Qm (pc + 3) L (zpush r S) w') : W p l e R s m args below meth c H locs cells slots Qm (F0 m pc ls st0) := by
  have hin := zA_in hD hS hA
  intro T hT X
  obtain ⟨v, st₀, t, T', L2, h0, X', hL, e1, e2, ⟨⟨r, w', hv, hq, hP1, hD1⟩, hz, hk⟩, st⟩ := hr T hT X
  have hv : v = r.map (tv φ) := by cases hv; rfl
  subst hv
  rw [h0] at hz hk
  obtain ⟨t2, a1, b1⟩ := kk r w' hq ls T'.heap (locs ++ L2) hls (by rw [e1]; exact hP1) (hD1.weaken (fun k q _ h => hin q.1 h))
    ⟨Nat.le_trans hS.1 (by rw [e1]; exact hz), fun q h1 h2 => by rw [e1, hk q (Nat.lt_of_lt_of_le h1 hS.1) (fun z => h2 (hin q z))]; exact hS.2.1 q h1 h2, fun q hq => by
      rcases List.mem_append.mp hq with h | h
      · exact hS.2.2 q h
      · exact hin _ (hL q h)⟩ T' rfl X'
  refine ⟨t2, st t2 ?_, b1⟩
  rw [zpush_map]
  exact a1
end ZCalls
/-- what a call of M, by the pool's place idx of class own, asks of the tables; k: how many arguments -/
def zLn (own : String) (idx : Nat) (M : zM) (k : Nat) : Prop := (Cond.methodLink own idx M.1 ∈ big ∨ ∃ host, Cond.methodLinkNest own idx M.1 host ∈ nests) ∧ Cond.code M.1 M.2.1 M.2.2.1 M.2.2.2 ∈ big ∧ Cond.initialized M.1.cls ∈ big ∧ (M.1.cls ≠ "java/lang/invoke/MethodHandle" ∧ M.1.cls ≠ "java/lang/invoke/VarHandle" ∧ (parseMethodDescriptor M.1.desc).map (fun d => d.parameters.length) = some k) ∧ M.2.2.1 ≤ 30
def zLv (own : String) (idx : Nat) (M : zM) (k : Nat) : Prop := zLn own idx M k ∧ Cond.instanceMethod M.1 ∈ big ∧ Cond.selects M.1.cls M.1 M.1 ∈ big
def zLs (own : String) (idx : Nat) (M : zM) (k : Nat) : Prop := zLn own idx M k ∧ Cond.static M.1 ∈ big
theorem big_good {w : Cond} (h : w ∈ big) : (w.onTables && w.keeps) = true ∨ ∃ ty, w = .arrayClass ty := good_of_word (List.mem_filter.mp h).2
theorem zws_good {M : zM} {Ts : List Cond} (hB : ∀ w ∈ big, w ∈ Ts) (hc : Cond.code M.1 M.2.1 M.2.2.1 M.2.2.2 ∈ big) : GoodIn Ts (zws M) := by
  intro w hw
  rcases List.mem_cons.mp hw with rfl | hw
  · exact ⟨hB _ hc, big_good hc⟩
  · exact ⟨hB _ hw, big_good hw⟩
theorem z_blind {φ : Nat → Nat} {cA : Nat → ClassId} {D : va_G} {w : ww} {sz : Nat} {av : List Value} : FrameBlind (va_Pc av (zB φ cA D w sz)) := by
  intro a U g mk q
  obtain ⟨q0, q1, qP, qK, qD⟩ := q
  exact ⟨q0, q1, qP, zK.same (u := U) (U := U.calling g mk a) rfl qK, qD⟩
section ZCallRows
variable {own : String} {cc : ByteArray} {nL n : Nat} {G : zG} {pc np : Nat} {L : zL} {S : List Value} {w : ww}
set_option maxHeartbeats 2000000 in
theorem zr_callV (h : zE own cc nL n G) {idx k j o ci : Nat} {fl : List (Option Nat)} {q : vw_C} {M : zM} {As : List Value} (hd : zD cc pc (.invokevirtual idx) 3 np) (hl : zLv own idx M j) (hs : zshapes[o]? = some (zob ci fl)) (hq : vwCl[ci]? = some q) (hqc : q.1 = M.1.cls) (hn : k + 1 ≤ n) (hlen : As.length = j) (hcat : zcat S ≤ 8)
    (hc : Ct M k (.ref o :: As) w (fun r w' => G np L (zpush r S) w')) : G pc L (As.reverse ++ .ref o :: S) w := by
  refine h.elim fun p l e R s m args below meth c φ cA D A H0 cells slots Qm Ts hG hC hB hK hA hn1 hn2 hn3 hn4 => ?_
  subst hG
  obtain ⟨hd, rfl⟩ := hd
  intro ls H locs hls hP hD hS
  have hC' := hC
  obtain ⟨hx, hb, hml, hown, hts⟩ := hC'
  obtain ⟨⟨hlk, hcode, hini, ⟨hm1, hm2, hpar⟩, h30⟩, hinst, hsel⟩ := hl
  have hM := hc l φ cA D H.size
  have hMeq : M.1 = ⟨M.1.cls, M.1.name, M.1.desc⟩ := rfl
  have hPre : PreV s H M.1.cls (φ o) (va_Pc ((Value.ref o :: As).map (tv φ)) (zB φ cA D w H.size)) (As.map (tv φ)) :=
    ⟨z_blind, by have := va_recv hK.1 hP hq (zWS_get hs); rw [hqc] at this; exact this, fun U hU hW => ⟨by simp [tv], by rw [hU], by rw [hU]; exact hP, hK.warm hW, hD.weaken (fun _ _ _ _ => trivial)⟩⟩
  have hR1 : (zrm k).frames + 1 ≤ R.frames := Nat.le_trans hn hn1
  have hR2 : 8 + (M.2.2.1 + 11) + (zrm k).locals ≤ R.locals := by show 8 + (M.2.2.1 + 11) + 60 * k ≤ R.locals; omega
  have hst : ((As.reverse ++ .ref o :: S).map (tv φ)) = (As.map (tv φ)).reverse ++ .ref (φ o) :: S.map (tv φ) := by simp [tv]
  rw [hst]
  have hcat' : 2 * (F0 m pc ls ((As.map (tv φ)).reverse ++ .ref (φ o) :: S.map (tv φ))).monitorRoom + ((S.map (tv φ)).map fun v => v.category).sum ≤ 8 := lv_room (by rw [zcat_tv]; exact hcat)
  rcases hlk with hlk | ⟨host, hlk⟩
  · have cw : CallW R s args own M.1.cls idx M.1 M.2.1 M.2.2.1 M.2.2.2 (zws M) (zrm k) 0 0 j :=
      ⟨callB_of j hts (zws_good hB hcode) rfl rfl rfl (hts _ (hB _ hini)) (hts _ (hB _ hlk)) ⟨hm1, hm2, hpar⟩ ⟨hR1, hR2⟩, hts _ (hB _ hinst), hts _ (hB _ hsel)⟩
    exact z_behind (va_runV hC hM cw hPre rfl (by simpa using hlen) hls.1 rfl hcat' hd ⟨hn3, hn4⟩) hls hD hS hA (fun r w' hq => hq)
  · have cw : va_CN R s args own idx M.1 host M.2.1 M.2.2.1 M.2.2.2 (zws M) (zrm k) 0 0 j ∧ (Cond.instanceMethod M.1).before args s = true ∧ (Cond.selects M.1.cls M.1 M.1).before args s = true :=
      ⟨va_cnB j hts (zws_good hB hcode) rfl rfl rfl (hK.2 _ hlk) (hts _ (hB _ hini)) ⟨hm1, hm2, hpar⟩ ⟨hR1, hR2⟩, hts _ (hB _ hinst), hts _ (hB _ hsel)⟩
    exact z_behind (va_runVN hC hM cw hPre rfl (by simpa using hlen) hls.1 rfl hcat' hd ⟨hn3, hn4⟩) hls hD hS hA (fun r w' hq => hq)
set_option maxHeartbeats 2000000 in
theorem zr_callS (h : zE own cc nL n G) {idx k j : Nat} {M : zM} {As : List Value} (hd : zD cc pc (.invokestatic idx) 3 np) (hl : zLs own idx M j) (hn : k + 1 ≤ n) (hlen : As.length = j) (hcat : zcat S ≤ 8)
    (hc : Ct M k As w (fun r w' => G np L (zpush r S) w')) : G pc L (As.reverse ++ S) w := by
  refine h.elim fun p l e R s m args below meth c φ cA D A H0 cells slots Qm Ts hG hC hB hK hA hn1 hn2 hn3 hn4 => ?_
  subst hG
  obtain ⟨hd, rfl⟩ := hd
  intro ls H locs hls hP hD hS
  have hC' := hC
  obtain ⟨hx, hb, hml, hown, hts⟩ := hC'
  obtain ⟨⟨hlk, hcode, hini, ⟨hm1, hm2, hpar⟩, h30⟩, hstat⟩ := hl
  have hM := hc l φ cA D H.size
  have hPre : PreS s H (va_Pc (As.map (tv φ)) (zB φ cA D w H.size)) (As.map (tv φ)) :=
    ⟨z_blind, fun U hU hW => ⟨rfl, by rw [hU], by rw [hU]; exact hP, hK.warm hW, hD.weaken (fun _ _ _ _ => trivial)⟩⟩
  have hR1 : (zrm k).frames + 1 ≤ R.frames := Nat.le_trans hn hn1
  have hR2 : 8 + (M.2.2.1 + 11) + (zrm k).locals ≤ R.locals := by show 8 + (M.2.2.1 + 11) + 60 * k ≤ R.locals; omega
  have hst : ((As.reverse ++ S).map (tv φ)) = (As.map (tv φ)).reverse ++ S.map (tv φ) := by simp
  rw [hst]
  have hcat' : 2 * (F0 m pc ls ((As.map (tv φ)).reverse ++ S.map (tv φ))).monitorRoom + ((S.map (tv φ)).map fun v => v.category).sum ≤ 8 := lv_room (by rw [zcat_tv]; exact hcat)
  rcases hlk with hlk | ⟨host, hlk⟩
  · have cw : CallB R s args own idx M.1 M.2.1 M.2.2.1 M.2.2.2 (zws M) (zrm k) 0 0 j ∧ (Cond.static M.1).before args s = true :=
      ⟨callB_of j hts (zws_good hB hcode) rfl rfl rfl (hts _ (hB _ hini)) (hts _ (hB _ hlk)) ⟨hm1, hm2, hpar⟩ ⟨hR1, hR2⟩, hts _ (hB _ hstat)⟩
    exact z_behind (va_runS hC hM cw hPre rfl (by simpa using hlen) hls.1 rfl hcat' hd ⟨hn3, hn4⟩) hls hD hS hA (fun r w' hq => hq)
  · have cw : va_CN R s args own idx M.1 host M.2.1 M.2.2.1 M.2.2.2 (zws M) (zrm k) 0 0 j ∧ (Cond.static M.1).before args s = true ∧ True :=
      ⟨va_cnB j hts (zws_good hB hcode) rfl rfl rfl (hK.2 _ hlk) (hts _ (hB _ hini)) ⟨hm1, hm2, hpar⟩ ⟨hR1, hR2⟩, hts _ (hB _ hstat), trivial⟩
    exact z_behind (va_runSN hC hM cw hPre rfl (by simpa using hlen) hls.1 rfl hcat' hd ⟨hn3, hn4⟩) hls hD hS hA (fun r w' hq => hq)
end ZCallRows
