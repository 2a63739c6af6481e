/-! Exceptions: what is carried, and the methods that throw by a bowl's kind. -/
def xstr : List (String × Nat × String) := [("BowlsWithin$Flat", 16, "it rolls away"), ("BowlsWithin$Glued", 21, "the glue gives way"), ("BowlsWithin$Bowl", 11, "it breaks"), ("BowlsWithin", 260, "no such shelf"), ("BowlsWithin", 270, "no such place of a row")]
def xnc : List (String × String) := [("java/lang/IllegalArgumentException", "java/lang/UnsupportedOperationException"), ("java/lang/IllegalStateException", "java/lang/UnsupportedOperationException"), ("java/lang/IllegalStateException", "java/lang/IllegalArgumentException")]
/-- what a throw, and its catching, ask of the world; A: what may change -/
def zXf (A : Nat → Prop) (U : State) : Prop := vx_Zq Bundle.tN "UNASSIGNED_STACK" Bundle.steD A U U.heap ∧ vx_Zq Bundle.tN "SUPPRESSED_SENTINEL" Bundle.listD A U U.heap ∧ (∀ q ∈ xstr, ∃ sa, vk_R q.1 q.2.1 q.2.2 sa U) ∧ (∀ q ∈ xnc, va_Nc q.1 q.2 U) ∧ (∀ w ∈ casts, va_Nw w U)
theorem zXf.move {A B : Nat → Prop} {s U : State} {locs : List Loc} (h : zXf A s) (hW : s.WarmedH U.vm) (hS : va_S A s.heap U.heap locs) (hAB : ∀ q, B q → A q) : zXf B U :=
  ⟨(vx_Zq.moved hW.alike (h.1.kept hS.2.1)).narrow hAB, (vx_Zq.moved hW.alike (h.2.1.kept hS.2.1)).narrow hAB, fun q hq => by
    obtain ⟨sa, hs⟩ := h.2.2.1 q hq
    exact ⟨sa, vk_R.warm hW hs⟩, fun q hq => va_Nc.moved hW.alike (h.2.2.2.1 q hq), casts_warm hW h.2.2.2.2⟩
theorem zXf.same {A : Nat → Prop} {u U : State} (hvm : u.vm = U.vm) (hh : U.heap = u.heap) (h : zXf A u) : zXf A U := by
  have ha : u.vm.Alike U.vm := by rw [← hvm]; exact Vm.Alike.refl _
  refine ⟨by rw [hh]; exact vx_Zq.moved ha h.1, by rw [hh]; exact vx_Zq.moved ha h.2.1, fun q hq => ?_, fun q hq => va_Nc.moved ha (h.2.2.2.1 q hq), casts_same hvm h.2.2.2.2⟩
  obtain ⟨sa, hs⟩ := h.2.2.1 q hq
  exact ⟨sa, vk_R.same hvm.symm hs⟩
def rmx (n : Nat) : Room := { frames := n, cells := 1, slots := 6, locals := 60 * n }
/-- the words of a throw, by their places in the tables -/
theorem xat {own cls : String} {ic : Nat} {names : List String} {args : Array Value} {s : State} (ps : List Nat) (h : vx_atS own ic cls names = ps.filterMap (fun i => tables_1[i]?)) (h2 : (vx_atS own ic cls names).all (fun w => goodWord w || zisC w) = true) (hB : ∀ w ∈ big, w.before args s = true) (hC : ∀ w ∈ casts, va_Nw w s) : ∀ w ∈ vx_atS own ic cls names, w.before args s = true := by
  intro w hw
  have h3 := List.all_eq_true.mp h2 w hw
  have hm : w ∈ tables_1 := by
    rw [h] at hw
    obtain ⟨i, -, hi⟩ := List.mem_filterMap.mp hw
    exact List.mem_of_getElem? hi
  rcases hg : goodWord w with _ | _
  · rw [hg] at h3
    have hc : zisC w = true := by simpa using h3
    have h4 := hC w (casts_in hm hc)
    refine va_Nw.use ?_ h4
    cases w <;> first | rfl | (cases hc; done)
  · exact hB w (big_in hm hg)
theorem xok {own cls : String} {ic ik : Nat} {names : List String} (h2 : (vx_atS own ic cls names).all (fun w => goodWord w || zisC w) = true) : ∀ w ∈ Cond.classLink own ik cls :: Cond.initialized cls :: vx_atS own ic cls names, vx_ot w = true := by
  intro w hw
  rcases List.mem_cons.mp hw with rfl | hw
  · rfl
  · rcases List.mem_cons.mp hw with rfl | hw
    · rfl
    · have h3 := List.all_eq_true.mp h2 w hw
      unfold vx_ot
      rcases hg : goodWord w with _ | _
      · rw [hg] at h3
        have hc : zisC w = true := by simpa using h3
        cases w <;> first | rfl | (cases hc; done)
      · simp
/-- a method that throws E but where P holds -/
def Fc (M : zM) (E : String) (P : Int32 → Prop) (n : Nat) : Prop := ∀ (l : Launch), l.stackTraces = false → ∀ (A : Nat → Prop) (a : Nat) (v : Int32) (sz : Nat),
  vx_Met l M.1 (zws M) (rmx n) (va_Pc [.ref a, .int v] (fun U => U.heap.size = sz ∧ zXf A U)) (va_Qv (fun _ : Unit => P v) (fun _ _ => True) (fun q => sz ≤ q)) (vx_X (fun _ : Unit => ¬ P v) (fun E' _ _ => E' = E) (fun q => sz ≤ q)) 1 6 (fun q => sz ≤ q)
theorem xp_X0 : vx_atS RX0 13 "java/lang/IllegalStateException" ["java/lang/RuntimeException", "java/lang/Exception"] = ([17, 801, 810, 814, 817, 819, 802, 803, 29, 30, 804, 809, 815, 835, 791, 836, 793, 837, 795, 805, 807, 797, 831, 832, 834, 797, 884, 885, 886, 825, 783, 825, 826, 827, 828, 785, 828, 829, 830, 831, 787, 883, 874, 875, 876, 813, 877, 878, 879, 880, 800, 799, 881] : List Nat).filterMap (fun i => tables_1[i]?) := by decide +kernel
theorem xg_X0 : (vx_atS RX0 13 "java/lang/IllegalStateException" ["java/lang/RuntimeException", "java/lang/Exception"]).all (fun w => goodWord w || zisC w) = true := by decide +kernel
set_option maxHeartbeats 2000000 in
theorem c_X0_fail : Fc mX0_fail "java/lang/IllegalStateException" (fun v => v = 0) 6 := by
  intro l hl A a v sz
  refine vx_ofW (cc := cX0_fail) (maxL := 2) (ret := none) (by decide) rfl ?_
  intro p e s m args below meth c s₁ B hml htab hv
  obtain ⟨rfl, rfl, hX⟩ := hv
  have hx := B.exec
  have hb := B.bytes
  have hr := B.returns
  have hts := atoms_spec (ws := zws mX0_fail) B.pre
  have hB : ∀ w ∈ big, w.before ([Value.ref a, Value.int v] : List Value).toArray s = true := fun w hw => hts w (List.mem_cons_of_mem _ hw)
  have hown : s.vm.findClass RX0 = some m.cls := findClass_of_methodNamed B.named
  rw [lg_entry_eq]
  have h9 := lv_entry [Value.ref a, Value.int v] (n := 2) (Nat.le_of_ble_eq_true rfl)
  refine lv_iload_n hx hb eX0_fail_0.1 rfl (h9.2.2 (1, Value.int v) (by simp [lv_args, Value.category])) ?_
  refine lv_if_eq hx hb eX0_fail_1.1 (tgt := 14) (by decide) (fun hz => ?_) (fun hz => ?_)
  · refine vx_ret (W.widen (k := 1) (n := 6) (Nat.zero_le _) (Nat.zero_le _) ?_)
    exact W.vret hx hb hr (fun t ht hW => ⟨⟨(), rfl, hz, trivial⟩, va_S.F va_S.rf ht⟩) (fun _ h => nomatch h) eX0_fail_14.1
  · obtain ⟨sa, hstr⟩ := hX.2.2.1 ("BowlsWithin$Bowl", 11, "it breaks") (by decide)
    exact vx_throwS (pc := 4) (own := RX0) (cls := "java/lang/IllegalStateException") (text := "it breaks") (names := ["java/lang/RuntimeException", "java/lang/Exception"]) (ik := 9) (is := 11) (ic := 13) (A := A) hx hb hl hown (by decide +kernel) (by decide +kernel) (hB _ (big_in (List.mem_of_getElem? (i := 873) (by decide +kernel)) rfl)) (hB _ (big_in (List.mem_of_getElem? (i := 21) (by decide +kernel)) rfl)) hstr (xat _ xp_X0 xg_X0 hB hX.2.2.2.2) (xok xg_X0) hX.1 hX.2.1 va_S.rf (h9.1.trans hml.symm) eX0_fail_4.1 eX0_fail_7.1 eX0_fail_8.1 eX0_fail_10.1 eX0_fail_13.1
      (fun x h => (htab x h).elim) (by decide) (by decide) (by decide) (by decide) B.notSynchronized (fun t _ h1 h2 => ⟨(), hz, rfl, h1, fun q h _ => h2 q h⟩) (fun _ h => nomatch h) (by decide) (by decide)
theorem xp_X2 : vx_atS RX2 18 "java/lang/UnsupportedOperationException" ["java/lang/RuntimeException", "java/lang/Exception"] = ([17, 801, 810, 814, 817, 819, 802, 803, 29, 30, 804, 809, 815, 835, 791, 836, 793, 837, 795, 805, 807, 797, 831, 832, 834, 797, 822, 823, 824, 825, 783, 825, 826, 827, 828, 785, 828, 829, 830, 831, 787, 821, 780, 781, 788, 789, 790, 792, 794, 796, 800, 799, 798] : List Nat).filterMap (fun i => tables_1[i]?) := by decide +kernel
theorem xg_X2 : (vx_atS RX2 18 "java/lang/UnsupportedOperationException" ["java/lang/RuntimeException", "java/lang/Exception"]).all (fun w => goodWord w || zisC w) = true := by decide +kernel
set_option maxHeartbeats 2000000 in
theorem c_X2_fail : Fc mX2_fail "java/lang/UnsupportedOperationException" (fun v => v = 0) 6 := by
  intro l hl A a v sz
  refine vx_ofW (cc := cX2_fail) (maxL := 2) (ret := none) (by decide) rfl ?_
  intro p e s m args below meth c s₁ B hml htab hv
  obtain ⟨rfl, rfl, hX⟩ := hv
  have hx := B.exec
  have hb := B.bytes
  have hr := B.returns
  have hts := atoms_spec (ws := zws mX2_fail) B.pre
  have hB : ∀ w ∈ big, w.before ([Value.ref a, Value.int v] : List Value).toArray s = true := fun w hw => hts w (List.mem_cons_of_mem _ hw)
  have hown : s.vm.findClass RX2 = some m.cls := findClass_of_methodNamed B.named
  rw [lg_entry_eq]
  have h9 := lv_entry [Value.ref a, Value.int v] (n := 2) (Nat.le_of_ble_eq_true rfl)
  refine lv_iload_n hx hb eX2_fail_0.1 rfl (h9.2.2 (1, Value.int v) (by simp [lv_args, Value.category])) ?_
  refine lv_if_eq hx hb eX2_fail_1.1 (tgt := 14) (by decide) (fun hz => ?_) (fun hz => ?_)
  · refine vx_ret (W.widen (k := 1) (n := 6) (Nat.zero_le _) (Nat.zero_le _) ?_)
    exact W.vret hx hb hr (fun t ht hW => ⟨⟨(), rfl, hz, trivial⟩, va_S.F va_S.rf ht⟩) (fun _ h => nomatch h) eX2_fail_14.1
  · obtain ⟨sa, hstr⟩ := hX.2.2.1 ("BowlsWithin$Flat", 16, "it rolls away") (by decide)
    exact vx_throwS (pc := 4) (own := RX2) (cls := "java/lang/UnsupportedOperationException") (text := "it rolls away") (names := ["java/lang/RuntimeException", "java/lang/Exception"]) (ik := 14) (is := 16) (ic := 18) (A := A) hx hb hl hown (by decide +kernel) (by decide +kernel) (hB _ (big_in (List.mem_of_getElem? (i := 779) (by decide +kernel)) rfl)) (hB _ (big_in (List.mem_of_getElem? (i := 22) (by decide +kernel)) rfl)) hstr (xat _ xp_X2 xg_X2 hB hX.2.2.2.2) (xok xg_X2) hX.1 hX.2.1 va_S.rf (h9.1.trans hml.symm) eX2_fail_4.1 eX2_fail_7.1 eX2_fail_8.1 eX2_fail_10.1 eX2_fail_13.1
      (fun x h => (htab x h).elim) (by decide) (by decide) (by decide) (by decide) B.notSynchronized (fun t _ h1 h2 => ⟨(), hz, rfl, h1, fun q h _ => h2 q h⟩) (fun _ h => nomatch h) (by decide) (by decide)
theorem xp_X4 : vx_atS RX4 23 "java/lang/IllegalArgumentException" ["java/lang/RuntimeException", "java/lang/Exception"] = ([17, 801, 810, 814, 817, 819, 802, 803, 29, 30, 804, 809, 815, 835, 791, 836, 793, 837, 795, 805, 807, 797, 831, 832, 834, 797, 862, 863, 864, 825, 783, 825, 826, 827, 828, 785, 828, 829, 830, 831, 787, 861, 852, 853, 854, 812, 855, 856, 857, 858, 800, 799, 859] : List Nat).filterMap (fun i => tables_1[i]?) := by decide +kernel
theorem xg_X4 : (vx_atS RX4 23 "java/lang/IllegalArgumentException" ["java/lang/RuntimeException", "java/lang/Exception"]).all (fun w => goodWord w || zisC w) = true := by decide +kernel
set_option maxHeartbeats 2000000 in
theorem c_X4_fail : Fc mX4_fail "java/lang/IllegalArgumentException" (fun v => v = 0) 6 := by
  intro l hl A a v sz
  refine vx_ofW (cc := cX4_fail) (maxL := 2) (ret := none) (by decide) rfl ?_
  intro p e s m args below meth c s₁ B hml htab hv
  obtain ⟨rfl, rfl, hX⟩ := hv
  have hx := B.exec
  have hb := B.bytes
  have hr := B.returns
  have hts := atoms_spec (ws := zws mX4_fail) B.pre
  have hB : ∀ w ∈ big, w.before ([Value.ref a, Value.int v] : List Value).toArray s = true := fun w hw => hts w (List.mem_cons_of_mem _ hw)
  have hown : s.vm.findClass RX4 = some m.cls := findClass_of_methodNamed B.named
  rw [lg_entry_eq]
  have h9 := lv_entry [Value.ref a, Value.int v] (n := 2) (Nat.le_of_ble_eq_true rfl)
  refine lv_iload_n hx hb eX4_fail_0.1 rfl (h9.2.2 (1, Value.int v) (by simp [lv_args, Value.category])) ?_
  refine lv_if_eq hx hb eX4_fail_1.1 (tgt := 14) (by decide) (fun hz => ?_) (fun hz => ?_)
  · refine vx_ret (W.widen (k := 1) (n := 6) (Nat.zero_le _) (Nat.zero_le _) ?_)
    exact W.vret hx hb hr (fun t ht hW => ⟨⟨(), rfl, hz, trivial⟩, va_S.F va_S.rf ht⟩) (fun _ h => nomatch h) eX4_fail_14.1
  · obtain ⟨sa, hstr⟩ := hX.2.2.1 ("BowlsWithin$Glued", 21, "the glue gives way") (by decide)
    exact vx_throwS (pc := 4) (own := RX4) (cls := "java/lang/IllegalArgumentException") (text := "the glue gives way") (names := ["java/lang/RuntimeException", "java/lang/Exception"]) (ik := 19) (is := 21) (ic := 23) (A := A) hx hb hl hown (by decide +kernel) (by decide +kernel) (hB _ (big_in (List.mem_of_getElem? (i := 851) (by decide +kernel)) rfl)) (hB _ (big_in (List.mem_of_getElem? (i := 20) (by decide +kernel)) rfl)) hstr (xat _ xp_X4 xg_X4 hB hX.2.2.2.2) (xok xg_X4) hX.1 hX.2.1 va_S.rf (h9.1.trans hml.symm) eX4_fail_4.1 eX4_fail_7.1 eX4_fail_8.1 eX4_fail_10.1 eX4_fail_13.1
      (fun x h => (htab x h).elim) (by decide) (by decide) (by decide) (by decide) B.notSynchronized (fun t _ h1 h2 => ⟨(), hz, rfl, h1, fun q h _ => h2 q h⟩) (fun _ h => nomatch h) (by decide) (by decide)
theorem c_X9_fail : Fc mX9_fail "" (fun _ => True) 1 := by
  intro l hl A a v sz
  refine vx_ofW (cc := cX9_fail) (maxL := 2) (ret := none) (by decide) rfl ?_
  intro p e s m args below meth c s₁ B hml htab hv
  obtain ⟨rfl, rfl, hX⟩ := hv
  rw [lg_entry_eq]
  refine vx_ret (W.widen (k := 1) (n := 6) (Nat.zero_le _) (Nat.zero_le _) ?_)
  exact W.vret B.exec B.bytes B.returns (fun t ht hW => ⟨⟨(), rfl, trivial, trivial⟩, va_S.F va_S.rf ht⟩) (fun _ h => nomatch h) eX9_fail_0.1
