/-! Calls of overridden methods by a superclass's name, and calls of super. -/
def zLu (own : String) (idx : Nat) (x : MethodName) (C : String) (M : zM) (k : Nat) : Prop := Cond.methodLink own idx x ∈ big ∧ Cond.sameMethod x.cls x.cls x.name x.desc ∈ big ∧ Cond.instanceMethod x ∈ big ∧ (∃ b m r, Cond.code x b m r ∈ big) ∧ Cond.selects C x M.1 ∈ big ∧ Cond.instanceMethod M.1 ∈ big ∧ Cond.initialized M.1.cls ∈ big ∧ Cond.code M.1 M.2.1 M.2.2.1 M.2.2.2 ∈ big ∧ (x.cls ≠ "java/lang/invoke/MethodHandle" ∧ x.cls ≠ "java/lang/invoke/VarHandle") ∧ (parseMethodDescriptor x.desc).map (fun d => d.parameters.length) = some k ∧ M.2.2.1 ≤ 30
def zLp (own : String) (idx : Nat) (x : MethodName) (M : zM) (k : Nat) : Prop := Cond.methodLink own idx x ∈ big ∧ Cond.sameMethod x.cls M.1.cls x.name x.desc ∈ big ∧ Cond.superclass own x.cls ∈ big ∧ (x.cls = M.1.cls ∨ Cond.superclass x.cls M.1.cls ∈ big) ∧ M.1.name = x.name ∧ M.1.desc = x.desc ∧ Cond.instanceMethod M.1 ∈ big ∧ Cond.initialized M.1.cls ∈ big ∧ Cond.code M.1 M.2.1 M.2.2.1 M.2.2.2 ∈ big ∧ x.name ≠ "<init>" ∧ (parseMethodDescriptor M.1.desc).map (fun d => d.parameters.length) = some k ∧ M.2.2.1 ≤ 30
section ZSup
variable {own : String} {cc : ByteArray} {nL n : Nat} {G : zG} {pc np : Nat} {L : zL} {S : List Value} {w : ww}
set_option maxHeartbeats 2000000 in
theorem zr_callU (h : zE own cc nL n G) {idx k j o ci : Nat} {fl : List (Option Nat)} {q : vw_C} {M : zM} {As : List Value} {x : MethodName} (hd : zD cc pc (.invokevirtual idx) 3 np) (hl : zLu own idx x q.1 M j) (hs : zshapes[o]? = some (zob ci fl)) (hq : vwCl[ci]? = some q) (hn : k + 1 ≤ n) (hlen : As.length = j) (hcat : zcat S ≤ 8)
    (hc : Ct M k (.ref o :: As) w (fun r w' => G np L (zpush r S) w')) : G pc L (As.reverse ++ .ref o :: S) w := by
  refine h.elim fun p l e R s m args below meth c φ cA D A H0 cells slots Qm Ts hG hC hB hK hA hn1 hn2 hn3 hn4 => ?_
  subst hG
  obtain ⟨hd, rfl⟩ := hd
  intro ls H locs hls hP hD hS
  have hC' := hC
  obtain ⟨hx, hb, hml, hown, hts⟩ := hC'
  obtain ⟨hlk, hsame, hinx, ⟨b0, m0, r0, hcx⟩, hsel, hinst, hini, hcode, hmh, hpar, h30⟩ := hl
  have hM := hc l φ cA D H.size
  have hPre : PreV s H q.1 (φ o) (va_Pc ((Value.ref o :: As).map (tv φ)) (zB φ cA D w H.size)) (As.map (tv φ)) :=
    ⟨z_blind, va_recv hK.1 hP hq (zWS_get hs), fun U hU hW => ⟨by simp [tv], by rw [hU], by rw [hU]; exact hP, hK.warm hW, hD.weaken (fun _ _ _ _ => trivial)⟩⟩
  have hR1 : (zrm k).frames + 1 ≤ R.frames := Nat.le_trans hn hn1
  have hR2 : 8 + (M.2.2.1 + 11) + (zrm k).locals ≤ R.locals := by show 8 + (M.2.2.1 + 11) + 60 * k ≤ R.locals; omega
  have hst : ((As.reverse ++ .ref o :: S).map (tv φ)) = (As.map (tv φ)).reverse ++ .ref (φ o) :: S.map (tv φ) := by simp [tv]
  rw [hst]
  have hcat' : 2 * (F0 m pc ls ((As.map (tv φ)).reverse ++ .ref (φ o) :: S.map (tv φ))).monitorRoom + ((S.map (tv φ)).map fun v => v.category).sum ≤ 8 := lv_room (by rw [zcat_tv]; exact hcat)
  have hws := zws_good hB hcode
  have cw : va_CU R s args own q.1 x.cls idx x M.1 M.2.1 M.2.2.1 M.2.2.2 (zws M) (zrm k) 0 0 j := by
    refine ⟨⟨rfl, rfl, hR1, hR2, pay_in hts hws, List.mem_cons_self⟩, hts _ (hB _ hcode), hts _ (hB _ hini), hmh, fun sig h => ?_, hts _ (hB _ hlk), hts _ (hB _ hsame), va_Decl.of (hts _ (hB _ hinx)) (hts _ (hB _ hcx)), hts _ (hB _ hsel), hts _ (hB _ hinst)⟩
    rw [h] at hpar
    exact (Option.some.inj hpar).symm
  exact z_behind (va_runU hC hM cw hPre rfl (by simpa using hlen) hls.1 rfl hcat' hd ⟨hn3, hn4⟩) hls hD hS hA (fun r w' hq => hq)
theorem zsub1 {vm : Vm} {a b : ClassId} {k : Class} (hk : vm.classes[a]? = some k) (hsup : k.super = some b) : vm.isSubclass a b = true := by
  have hs : 1 ≤ vm.classes.size := by
    have := (Array.getElem?_eq_some_iff.mp hk).1
    omega
  obtain ⟨z, hz⟩ : ∃ z, vm.classes.size = z + 1 := ⟨vm.classes.size - 1, by omega⟩
  simp only [Vm.isSubclass, hz]
  simp [Vm.isSubclassAux, hk, hsup]
set_option maxHeartbeats 2000000 in
theorem zr_callP (h : zE own cc nL n G) {idx k j o ci : Nat} {fl : List (Option Nat)} {q : vw_C} {M : zM} {As : List Value} {x : MethodName} (hd : zD cc pc (.invokespecial idx) 3 np) (hl : zLp own idx x M j) (hs : zshapes[o]? = some (zob ci fl)) (hq : vwCl[ci]? = some q) (hn : k + 1 ≤ n) (hlen : As.length = j) (hcat : zcat S ≤ 8)
    (hc : Ct M k (.ref o :: As) w (fun r w' => G np L (zpush r S) w')) : G pc L (As.reverse ++ .ref o :: S) w := by
  refine h.elim fun p l e R s m args below meth c φ cA D A H0 cells slots Qm Ts hG hC hB hK hA hn1 hn2 hn3 hn4 => ?_
  subst hG
  obtain ⟨hd, rfl⟩ := hd
  intro ls H locs hls hP hD hS
  have hC' := hC
  obtain ⟨hx, hb, hml, hown, hts⟩ := hC'
  obtain ⟨hlk, hsame, hsup, hup, hnm, hds, hinst, hini, hcode, hno, hpar, h30⟩ := hl
  have hM := hc l φ cA D H.size
  obtain ⟨cellB, hcB, hoB, hclB⟩ := va_recv hK.1 hP hq (zWS_get hs)
  obtain ⟨-, hfc, kB, hkB, -⟩ := hK.1.1 ci _ hq
  have e0 := Option.some.inj (hfc.symm.trans hclB)
  rw [e0] at hkB
  have hPc : ∀ U : State, U.heap = H → s.WarmedH U.vm → va_Pc ((Value.ref o :: As).map (tv φ)) (zB φ cA D w H.size) (Value.ref (φ o) :: As.map (tv φ)).toArray U :=
    fun U hU hW => ⟨by simp [tv], by rw [hU], by rw [hU]; exact hP, hK.warm hW, hD.weaken (fun _ _ _ _ => trivial)⟩
  have hR1 : (zrm k).frames + 1 ≤ R.frames := Nat.le_trans hn hn1
  have hR2 : 8 + (M.2.2.1 + 11) + (zrm k).locals ≤ R.locals := by show 8 + (M.2.2.1 + 11) + 60 * k ≤ R.locals; omega
  have hst : ((As.reverse ++ .ref o :: S).map (tv φ)) = (As.map (tv φ)).reverse ++ .ref (φ o) :: S.map (tv φ) := by simp [tv]
  rw [hst]
  have hcat' : 2 * (F0 m pc ls ((As.map (tv φ)).reverse ++ .ref (φ o) :: S.map (tv φ))).monitorRoom + ((S.map (tv φ)).map fun v => v.category).sum ≤ 8 := lv_room (by rw [zcat_tv]; exact hcat)
  have hws := zws_good hB hcode
  have hini' := hts _ (hB _ hini)
  have hK' : Back l R p e below s args M.1 3 8 (PreOf R 0 0 (va_Pc ((Value.ref o :: As).map (tv φ)) (zB φ cA D w H.size))) (PostOf (zQc φ cA D (zA φ H.size) (fun r w' => zV p l e R s m args below meth c nL φ cA D A H0 cells slots Qm (pc + 3) L (zpush r S) w')) 0 0 (zA φ H.size)) :=
    back_of (bytes := M.2.1) (maxL := M.2.2.1) (ret := M.2.2.2) hM z_blind rfl rfl hR1 hR2 (pay_in hts hws) List.mem_cons_self (fun a' U hW => word_at hW (Or.inl (by first | rfl | simp [Cond.onTables, Cond.keeps, Cond.steady])) hini')
  refine z_behind (a := (Value.ref (φ o) :: As.map (tv φ)).toArray) (Q := fun r w' => zV p l e R s m args below meth c nL φ cA D A H0 cells slots Qm (pc + 3) L (zpush r S) w') ?_ hls hD hS hA (fun r w' hq => hq)
  intro T hT X
  obtain ⟨mk, methM, hnamed, hmethM, hstM, habM⟩ := Cond.instanceMethod_spec (hts _ (hB _ hinst))
  obtain ⟨methM', cM, hmethM', -, -, -, -, -, -, hsigM⟩ := Cond.code_spec hnamed (hts _ (hB _ hcode))
  cases hmethM.symm.trans hmethM'
  obtain ⟨ps, dk, kp, hps, hdk, hkp, hsuper, -, -, hnid⟩ := Cond.superclass_spec hown (hts _ (hB _ hsup))
  have hn0 : s.methodNamed? ⟨M.1.cls, x.name, x.desc⟩ = some mk := by rw [← hnm, ← hds]; exact hnamed
  have hsub : s.vm.isSubclass ps mk.cls = true := by
    rcases hup with hup | hup
    · have hpm : ps = mk.cls := Option.some.inj (hps.symm.trans (hup ▸ findClass_of_methodNamed hnamed))
      rw [hpm]; simp [Vm.isSubclass, Vm.isSubclassAux]
    · obtain ⟨ps2, dk2, kp2, hps2, hdk2, hkp2, hsuper2, -⟩ := Cond.superclass_spec hps (hts _ (hB _ hup))
      have hpm : ps2 = mk.cls := Option.some.inj (hps2.symm.trans (findClass_of_methodNamed hnamed))
      exact zsub1 hdk2 (hpm ▸ hsuper2)
  have hlen2 : (As.map (tv φ)).length = methM.sig.parameters.length := by
    have h1 := hpar
    rw [hsigM] at h1
    have h2 := (Option.some.inj h1)
    simp only [List.length_map, hlen]
    exact h2.symm
  obtain ⟨vm₁, X₁, hstep₁⟩ := X.invokespecialUp hx hown (hts _ (hB _ hlk)) (hts _ (hB _ hsame)) hn0 hmethM hstM habM hno hdk hnid hps hsuper hsub (a := φ o) (cell := cellB) (by rw [hT]; exact hcB)
    (fun z h => by rw [h] at hoB; cases hoB) hkB (g := F0 m pc ls ((As.map (tv φ)).reverse ++ .ref (φ o) :: S.map (tv φ))) rfl (argsL := As.map (tv φ)) (rest := S.map (tv φ)) hlen2 rfl (by rw [hb]; exact hd)
  obtain ⟨v, ⟨U', l2, c2, s2⟩, X', ⟨g', mk', t, L2, e1, e2, hq2, h1, hL, h2, h3⟩, hsteps⟩ := hK' m meth c ⟨T.setVm vm₁, locs, cells, slots⟩ { F0 m pc ls ((As.map (tv φ)).reverse ++ .ref (φ o) :: S.map (tv φ)) with stack := S.map (tv φ) } (.invokespecial idx) mk (Value.ref (φ o) :: As.map (tv φ)).toArray X₁ rfl (hls.1.trans hml.symm) (by rw [hb]; exact hd) hcat' (X₁.named hnamed) ⟨hn3, hn4, hPc _ hT X₁.warmed⟩
  dsimp only [Pt.U, Pt.locs, Pt.cells, Pt.slots] at X' e1 e2 h1 h2 h3 hsteps
  subst h1; subst h2; subst h3
  exact ⟨v, (T.setVm vm₁).calling g' mk' (Value.ref (φ o) :: As.map (tv φ)).toArray, t, U', L2, hT, X', hL, e1, e2, hq2, fun target h => hstep₁ _ (by rw [doInvoke_state]; exact hsteps.trans h)⟩
end ZSup
