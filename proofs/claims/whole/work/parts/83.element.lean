/-! element of the class, and the law's helper that catches. -/
set_option maxHeartbeats 2000000 in
theorem Lc.of {M : zM} {n : Nat} {av : List Value} {w : ww} {Q : Option Value → ww → Prop} {QX : String → Prop} (hp : plainName M.1.cls = true) (hlen : (zel av).length ≤ M.2.2.1) (hfit : ∀ φ : Nat → Nat, (lg_sl (av.map (tv φ))).length ≤ M.2.2.1) (hret : M.2.2.2 = some .long) (h6 : 6 ≤ n)
    (body : ∀ G : zG, zE M.1.cls M.2.1 M.2.2.1 n G → (∀ (v : Int64) (pc : Nat) (L : zL) (w : ww) (np : Nat), zD M.2.1 pc .lreturn 1 np → Q (some (.long v)) w → G pc L [.long v] w) →
      (∀ {pc ik is ic n1 n2 n3 n4 n5 : Nat} {cls text : String} {L : zL} (ps : List Nat), zD M.2.1 pc (.new ik) 3 n1 → zD M.2.1 n1 .dup 1 n2 → zD M.2.1 n2 (.ldc_w is) 3 n3 → zD M.2.1 n3 (.invokespecial ic) 3 n4 → zD M.2.1 n4 .athrow 1 n5 → Bundle.fit cls = true → (M.1.cls, is, text) ∈ xstr → Cond.classLink M.1.cls ik cls ∈ big → Cond.initialized cls ∈ big →
        vx_atS M.1.cls ic cls ["java/lang/RuntimeException", "java/lang/Exception"] = ps.filterMap (fun i => tables_1[i]?) → (vx_atS M.1.cls ic cls ["java/lang/RuntimeException", "java/lang/Exception"]).all (fun w => goodWord w || zisC w) = true → QX cls → G pc L [] w) → G 0 (zpad M.2.2.1 (zel av)) [] w) : Lc M n av w Q QX := by
  intro l hst φ cA D sz
  refine vx_ofW (cc := M.2.1) (maxL := M.2.2.1) (ret := M.2.2.2) hp rfl ?_
  intro p e s m args below meth c s₁ B hml htab hv
  obtain ⟨rfl, ⟨rfl, hP, hK, hD0⟩, hX⟩ := hv
  have hx := B.exec
  have hb := B.bytes
  have hr := B.returns
  have hts := atoms_spec (ws := zws M) B.pre
  have hB : ∀ w ∈ big, w.before (av.map (tv φ)).toArray s = true := fun w hw => hts w (List.mem_cons_of_mem _ hw)
  have hown : s.vm.findClass M.1.cls = some m.cls := findClass_of_methodNamed B.named
  have hlocks := B.notSynchronized
  have hD := zA_big (sz := s.heap.size) hD0
  rw [lg_entry_eq]
  have hl := lv_entry (av.map (tv φ)) (n := M.2.2.1) (hfit φ)
  have hls : zlok φ ((lg_sl (av.map (tv φ)) ++ List.replicate (M.2.2.1 - (lg_sl (av.map (tv φ))).length) Slot.unset).toArray) M.2.2.1 (zel av) :=
    ⟨hl.1, hl.2.1, fun q hq => hl.2.2 q (zel_mem φ av 0 q hq)⟩
  have hls := zlok.sub hls (zpad_sub M.2.2.1 (zel av))
  refine body (zV p l e (headSpec (zws M) (rmx n)).room s m (av.map (tv φ)).toArray below meth c M.2.2.1 φ cA D (zA φ s.heap.size) s.heap 0 0 (vx_MQ below (zQc φ cA D (zA φ s.heap.size) Q) (vx_X (fun _ : Unit => True) (fun E _ t => QX E ∧ va_P D vwCl (zWS φ cA w) t.heap) (zA φ s.heap.size)) (av.map (tv φ)).toArray s 1 6 (zA φ s.heap.size)))
    ⟨p, l, e, (headSpec (zws M) (rmx n)).room, s, m, (av.map (tv φ)).toArray, below, meth, c, φ, cA, D, zA φ s.heap.size, s.heap, 0, 0, _, zws M, rfl, ⟨hx, hb, hml, hown, hts⟩, fun w hw => List.mem_cons_of_mem _ hw, hK, fun q h => Or.inr h, Nat.le_refl _, Nat.le_refl _, Nat.zero_le _, Nat.zero_le _⟩ ?_ ?_ _ s.heap [] hls hP hD va_S.rf
  · intro v pc L w np hd hQ ls H locs hls hP hD hS
    refine vx_ret (W.widen (k := 1) (n := 6) (Nat.zero_le _) (Nat.zero_le _) ?_)
    exact W.lret hx hb (hr.trans hret) (fun t ht hW => ⟨⟨some (.long v), w, rfl, hQ, by rw [ht]; exact hP, hD⟩, hS.F ht⟩) hS.2.2 hd.1
  · intro pc ik is ic n1 n2 n3 n4 n5 cls text L ps d0 d1 d2 d3 d4 hfit2 hstr hk hi hat hall hQX ls H locs hls hP hD hS
    obtain ⟨d0, rfl⟩ := d0
    obtain ⟨d1, rfl⟩ := d1
    obtain ⟨d2, rfl⟩ := d2
    obtain ⟨d3, rfl⟩ := d3
    obtain ⟨d4, rfl⟩ := d4
    obtain ⟨sa, hsa⟩ := hX.2.2.1 _ hstr
    exact vx_throwSW (own := M.1.cls) (cls := cls) (text := text) (names := ["java/lang/RuntimeException", "java/lang/Exception"]) (ik := ik) (is := is) (ic := ic) (A := zA φ s.heap.size) hx hb hst hown hfit2 (by decide +kernel) (hB _ hk) (hB _ hi) hsa (xat ps hat hall hB hX.2.2.2.2) (xok hall) hX.1 hX.2.1 hS (hls.1.trans hml.symm) d0 d1 d2 d3 d4
      (fun x h => (htab x h).elim) (by show 2 + 3 < n; omega) (by show 0 + (13 * (2 + 1) + 43) ≤ 60 * n; omega) (Nat.le_refl _) (Nat.le_refl _) hlocks
      (fun t _ h1 h2 => ⟨(), trivial, ⟨hQX, hP.kept (fun k q hk => h2 q.1 (vx_lt hP hk))⟩, Nat.le_trans hS.1 h1, fun q h3 h4 => (h2 q (Nat.lt_of_lt_of_le h3 hS.1)).trans (hS.2.1 q h3 h4)⟩) (fun z hz => hS.2.2 z hz) (Nat.le_refl _) (Nat.le_refl _)
/-- a call of a method that throws, in one that catches -/
theorem zEX.call {own : String} {cc : ByteArray} {nL n : Nat} {hh : List (Nat × Nat × Nat × Nat)} {G0 G1 : zG} (h : zEX own cc nL n hh G0 G1) {pc np idx k j o ci : Nat} {fl : List (Option Nat)} {q : vw_C} {M : zM} {As : List Value} {QX : String → Prop} {L : zL} {S : List Value} {w : ww} (hd : zD cc pc (.invokevirtual idx) 3 np) (hl : zLv own idx M j) (hlk : Cond.methodLink own idx M.1 ∈ big) (hs : zshapes[o]? = some (zob ci fl)) (hq : vwCl[ci]? = some q) (hqc : q.1 = M.1.cls) (hn : k + 1 ≤ n) (hlen : As.length = j) (hcat : zcat S ≤ 8)
    (hL : Lc M k (.ref o :: As) w (fun r w' => G1 np L (zpush r S) w') QX) (kx : ∀ E, QX E → ∃ nh, zHn own cc nL hh pc E L nh ∧ G1 nh L [] w) : G0 pc L (As.reverse ++ .ref o :: S) w := by
  obtain ⟨p, l, e, R, s, m, args, below, meth, c, φ, cA, D, Qm, Ts, rfl, rfl, hC, hB, hK, hn1, hn2, hn3, hn4, hst0, htab, hX⟩ := h
  obtain ⟨hd, rfl⟩ := hd
  intro ls H locs hls hP hD hS
  have hC' := hC
  obtain ⟨hx, hb, hml, hown, hts⟩ := hC'
  obtain ⟨⟨-, hcode, hini, ⟨hm1, hm2, hpar⟩, h30⟩, hinst, hsel⟩ := hl
  have hM := hL l hst0 φ cA D H.size
  have hin := zA_in hD hS (fun q h => Or.inr h)
  have hPre : PreV s H M.1.cls (φ o) (va_Pc ((Value.ref o :: As).map (tv φ)) (zBX φ cA D w H.size)) (As.map (tv φ)) :=
    ⟨zX_blind, by have := va_recv hK.1 hP hq (zWS_get hs); rw [hqc] at this; exact this, fun U hU hW => ⟨by simp [tv], ⟨by rw [hU], by rw [hU]; exact hP, hK.warm hW, hD.weaken (fun _ _ _ _ => trivial)⟩, hX.move hW (by rw [hU]; exact hS) hin⟩⟩
  have hR1 : (rmx k).frames + 1 ≤ R.frames := Nat.le_trans hn hn1
  have hR2 : 8 + (M.2.2.1 + 11) + (rmx k).locals ≤ R.locals := by show 8 + (M.2.2.1 + 11) + 60 * k ≤ R.locals; omega
  have hst : ((As.reverse ++ .ref o :: S).map (tv φ)) = (As.map (tv φ)).reverse ++ .ref (φ o) :: S.map (tv φ) := by simp [tv]
  rw [hst]
  have hcat' : 2 * (F0 m pc ls ((As.map (tv φ)).reverse ++ .ref (φ o) :: S.map (tv φ))).monitorRoom + ((S.map (tv φ)).map fun v => v.category).sum ≤ 8 := lv_room (by rw [zcat_tv]; exact hcat)
  have cw : CallW R s args own M.1.cls idx M.1 M.2.1 M.2.2.1 M.2.2.2 (zws M) (rmx k) 1 6 j :=
    ⟨callB_of j hts (zws_good hB hcode) rfl rfl rfl (hts _ (hB _ hini)) (hts _ (hB _ hlk)) ⟨hm1, hm2, hpar⟩ ⟨hR1, hR2⟩, hts _ (hB _ hinst), hts _ (hB _ hsel)⟩
  refine z_behindX (w := w) (vx_runV hC hM cw hPre rfl (by simpa using hlen) hls.1 rfl hcat' hd ⟨by omega, by omega⟩) hls hD hS (fun q h => Or.inr h) (fun r w' hq => hq) ?_
  intro E ce q9 H1 locs1 hQ hP1 hS1 hcell hv hcl
  obtain ⟨nh, hH, kg⟩ := kx E hQ
  exact z_catch hC hB htab hX hH hls hP1 hD hS1 hcell hv hcl kg
theorem zr_last {own : String} {cc : ByteArray} {nL n : Nat} {G : zG} {pc np : Nat} {L : zL} {S : List Value} {w : ww} (h : zE own cc nL n G) {o N : Nat} {i x : Int32} (hd : zD cc pc .lastore 1 np) (hs : zshapes[o]? = some (zla N)) (hin : vp_in i N) (kk : G np L S (wu w o i.toNatClampNeg x)) : G pc L (.long x.toInt64 :: .int i :: .ref o :: S) w := by
  refine h.elim fun p l e R s m args below meth c φ cA D A H0 cells slots Qm Ts hG hC hB hK hA hn1 hn2 hn3 hn4 => ?_
  subst hG
  obtain ⟨hx, hb, hml, hown, hts⟩ := hC
  obtain ⟨hd, rfl⟩ := hd
  intro ls H locs hls hP hD hS
  have key : (zWS φ cA w).set o (φ o, .inl (cA 3, N, .inr (.inl (vp_updL (fun k => (w o k).toInt64) i.toNatClampNeg x.toInt64)))) = zWS φ cA (wu w o i.toNatClampNeg x) := by
    have e : vp_updL (fun k => (w o k).toInt64) i.toNatClampNeg x.toInt64 = fun k => (wu w o i.toNatClampNeg x o k).toInt64 := by
      funext b
      unfold vp_updL wu
      by_cases h : b = i.toNatClampNeg
      · simp [h]
      · simp [h]
    rw [e]
    exact zWS_set (φ := φ) (cA := cA) (w := w) (w' := wu w o i.toNatClampNeg x) (sh := zla N) hs (fun p hp => wu_off hp)
  exact va_last hx hb hK.1 hP hD hS o 3 (zWS_get hs) rfl hin hd (fun H1 locs1 hP1 hD1 hS1 => kk ls H1 locs1 hls (key ▸ hP1) (key ▸ hD1) hS1)
theorem xp_elA : vx_atS RX11 262 "java/lang/IllegalArgumentException" ["java/lang/RuntimeException", "java/lang/Exception"] = ([17, 801, 810, 814, 817, 819, 802, 803, 29, 30, 804, 809, 815, 835, 791, 836, 793, 837, 795, 805, 807, 797, 831, 832, 834, 797, 862, 863, 864, 825, 783, 825, 826, 827, 828, 785, 828, 829, 830, 831, 787, 899, 852, 853, 854, 812, 855, 856, 857, 858, 800, 799, 859] : List Nat).filterMap (fun i => tables_1[i]?) := by decide +kernel
theorem xg_elA : (vx_atS RX11 262 "java/lang/IllegalArgumentException" ["java/lang/RuntimeException", "java/lang/Exception"]).all (fun w => goodWord w || zisC w) = true := by decide +kernel
theorem xp_elS : vx_atS RX11 272 "java/lang/IllegalStateException" ["java/lang/RuntimeException", "java/lang/Exception"] = ([17, 801, 810, 814, 817, 819, 802, 803, 29, 30, 804, 809, 815, 835, 791, 836, 793, 837, 795, 805, 807, 797, 831, 832, 834, 797, 884, 885, 886, 825, 783, 825, 826, 827, 828, 785, 828, 829, 830, 831, 787, 901, 874, 875, 876, 813, 877, 878, 879, 880, 800, 799, 881] : List Nat).filterMap (fun i => tables_1[i]?) := by decide +kernel
theorem xg_elS : (vx_atS RX11 272 "java/lang/IllegalStateException" ["java/lang/RuntimeException", "java/lang/Exception"]).all (fun w => goodWord w || zisC w) = true := by decide +kernel
/-- what the law's helper answers -/
def clT (w : ww) (d i : Int32) : Int32 := if fIs d 0 7 = false then 1 else if ¬ w (fSh d) 1 = 2 ∨ (decide (0 ≤ i) && decide (i < w (fSh d) 5)) = false then 2 else 0
set_option maxHeartbeats 4000000 in
theorem c_X11_element {d i : Int32} {w : ww} {Q : Option Value → ww → Prop} {QX : String → Prop} (hz : fIs d 0 7 = true → w (fSh d) 1 = 2 → w (fSh d) 5 ≤ 100) (hA : clT w d i = 1 → QX "java/lang/IllegalArgumentException") (hS : clT w d i = 2 → QX "java/lang/IllegalStateException") (hQ : clT w d i = 0 → Q (some (.long (sAt w (fSh d) i).toInt64)) w) : Lc mX11_element 6 [.ref 0, .int d, .int i] w Q QX := by
  refine Lc.of (by decide) (Nat.le_of_ble_eq_true rfl) (fun _ => Nat.le_of_ble_eq_true rfl) rfl (by decide) (fun G hE hRl hTh => ?_)
  refine zr_iload_n hE eX11_element_0 rfl ?_
  refine zr_callS1 hE eX11_element_1 lX11_117 (by decide) (Nat.le_of_ble_eq_true rfl) (c_X11_isShelf ?_)
  refine zr_bne hE eX11_element_4 (tgt := 18) (by decide) (fun zc4 => ?_) (fun zc4 => ?_)
  · refine zr_aload_n hE eX11_element_18 rfl ?_
    refine zr_getR hE eX11_element_19 fX11_61 zs0 rfl ?_
    refine zr_iload_n hE eX11_element_22 rfl ?_
    refine zr_shelves hE eX11_element_23 (fIs_vp zc4) ?_
    refine zr_getI hE eX11_element_24 fX11_265 ((fSh_sf zc4)).s0 rfl ?_
    refine zr_iconst hE eX11_element_27 (v := 2) (by decide) ?_
    refine zr_icmp_ne hE eX11_element_28 (tgt := 44) (by decide) (fun zc28 => ?_) (fun zc28 => ?_)
    · exact hTh _ eX11_element_44 eX11_element_47 eX11_element_48 eX11_element_51 eX11_element_54 (by decide +kernel) (show (RX11, _, "no such place of a row") ∈ xstr by decide) (big_in (List.mem_of_getElem? (i := 770) (by decide +kernel)) rfl) (big_in (List.mem_of_getElem? (i := 21) (by decide +kernel)) rfl) xp_elS xg_elS (hS (by unfold clT fSh; rw [if_neg (fun q => by rw [zc4] at q; cases q), if_pos (Or.inl zc28)]))
    · refine zr_aload_n hE eX11_element_31 rfl ?_
      refine zr_getR hE eX11_element_32 fX11_61 zs0 rfl ?_
      refine zr_iload_n hE eX11_element_35 rfl ?_
      refine zr_shelves hE eX11_element_36 (fIs_vp zc4) ?_
      refine zr_iload_n hE eX11_element_37 rfl ?_
      refine zr_callV1 hE eX11_element_38 lX11_252 ((fSh_sf zc4)).s0 rfl rfl (by decide) (Nat.le_of_ble_eq_true rfl) (c_X10_hasPlace (fSh_sf zc4) ?_)
      refine zr_bne hE eX11_element_41 (tgt := 55) (by decide) (fun zc41 => ?_) (fun zc41 => ?_)
      · refine zr_aload_n hE eX11_element_55 rfl ?_
        refine zr_getR hE eX11_element_56 fX11_61 zs0 rfl ?_
        refine zr_iload_n hE eX11_element_59 rfl ?_
        refine zr_shelves hE eX11_element_60 (fIs_vp zc4) ?_
        refine zr_iload_n hE eX11_element_61 rfl ?_
        refine zr_callV1 hE eX11_element_62 lX11_217 ((fSh_sf zc4)).s0 rfl rfl (by decide) (Nat.le_of_ble_eq_true rfl) (c_X10_at (fSh_sf zc4) (hz zc4 zc28) ?_)
        refine zr_i2l hE eX11_element_65 ?_
        exact hRl _ _ _ _ _ eX11_element_66 (hQ (by unfold clT fSh; rw [if_neg (fun q => by rw [zc4] at q; cases q), if_neg (fun q => q.elim (fun q => q zc28) (fun q => by rw [zc41] at q; cases q))]))
      · exact hTh _ eX11_element_44 eX11_element_47 eX11_element_48 eX11_element_51 eX11_element_54 (by decide +kernel) (show (RX11, _, "no such place of a row") ∈ xstr by decide) (big_in (List.mem_of_getElem? (i := 770) (by decide +kernel)) rfl) (big_in (List.mem_of_getElem? (i := 21) (by decide +kernel)) rfl) xp_elS xg_elS (hS (by unfold clT fSh; rw [if_neg (fun q => by rw [zc4] at q; cases q), if_pos (Or.inr zc41)]))
  · exact hTh _ eX11_element_7 eX11_element_10 eX11_element_11 eX11_element_14 eX11_element_17 (by decide +kernel) (show (RX11, _, "no such shelf") ∈ xstr by decide) (big_in (List.mem_of_getElem? (i := 769) (by decide +kernel)) rfl) (big_in (List.mem_of_getElem? (i := 20) (by decide +kernel)) rfl) xp_elA xg_elA (hA (by unfold clT; rw [if_pos zc4]))
abbrev mL_element : zM := (yL_element, cL_element, 5, some .int)
def elT : List (Nat × Nat × Nat × Nat) := [(0, 9, 12, 13), (0, 9, 16, 15)]
theorem el_hA (L : zL) (hz : znl L = true) (h5 : ∀ u, ¬ L[4]? = some (some u)) : zHn RL cL_element 5 elT 5 "java/lang/IllegalArgumentException" L 14 := ⟨[], ⟨0, 9, 12, 13⟩, [⟨0, 9, 16, 15⟩], "java/lang/IllegalArgumentException", 4, rfl, (fun z hz => nomatch hz), by decide, by decide, big_in (List.mem_of_getElem? (i := 892) (by decide +kernel)) rfl, casts_in (List.mem_of_getElem? (i := 853) (by decide +kernel)) rfl, eL_element_12, by decide, hz, h5⟩
theorem el_hS (L : zL) (hz : znl L = true) (h5 : ∀ u, ¬ L[4]? = some (some u)) : zHn RL cL_element 5 elT 5 "java/lang/IllegalStateException" L 18 := ⟨[⟨0, 9, 12, 13⟩], ⟨0, 9, 16, 15⟩, [], "java/lang/IllegalStateException", 4, rfl, (fun z hz => by
    rcases List.mem_cons.mp hz with rfl | hz
    · exact Or.inr ⟨by decide, "java/lang/IllegalArgumentException", big_in (List.mem_of_getElem? (i := 892) (by decide +kernel)) rfl, by decide⟩
    · cases hz), by decide, by decide, big_in (List.mem_of_getElem? (i := 893) (by decide +kernel)) rfl, casts_in (List.mem_of_getElem? (i := 875) (by decide +kernel)) rfl, eL_element_16, by decide, hz, h5⟩
set_option maxHeartbeats 4000000 in
theorem c_L_element {d i : Int32} {w : ww} {Q : Option Value → ww → Prop} (hz : fIs d 0 7 = true → w (fSh d) 1 = 2 → w (fSh d) 5 ≤ 100) (h1 : ¬ clT w d i = 0 → Q (some (.int (clT w d i))) w) (h0 : clT w d i = 0 → Q (some (.int 0)) (wu w 71 0 (sAt w (fSh d) i))) : CtX mL_element elT 7 [.ref 0, .int d, .int i, .ref 71] w Q := by
  refine CtX.of (by decide) (Nat.le_of_ble_eq_true rfl) (fun _ => Nat.le_of_ble_eq_true rfl) rfl (fun G0 G1 hX hR0 hR1 => ?_)
  have hE := hX.g0
  have hE1 := hX.g1
  refine zr_aload_n hE eL_element_0 rfl ?_
  refine zr_iconst hE eL_element_1 (v := 0) (by decide) ?_
  refine zr_aload_n hE eL_element_2 rfl ?_
  refine zr_iload_n hE eL_element_3 rfl ?_
  refine zr_iload_n hE eL_element_4 rfl ?_
  have h5 : ∀ u, ¬ ([some (.ref 0), some (.int d), some (.int i), some (.ref 71), none] : zL)[4]? = some (some u) := fun u h => by simp at h
  refine hX.call (As := [.int d, .int i]) eL_element_5 lL_7 (big_in (List.mem_of_getElem? (i := 894) (by decide +kernel)) rfl) zs0 rfl rfl (by decide) rfl (Nat.le_of_ble_eq_true rfl) (c_X11_element (QX := fun E => (E = "java/lang/IllegalArgumentException" ∧ clT w d i = 1) ∨ (E = "java/lang/IllegalStateException" ∧ clT w d i = 2)) hz (fun h => Or.inl ⟨rfl, h⟩) (fun h => Or.inr ⟨rfl, h⟩) (fun h => ?_)) ?_
  · show G1 8 _ [.long (sAt w (fSh d) i).toInt64, .int 0, .ref 71] w
    refine zr_last hE1 (N := 1) eL_element_8 rfl (by unfold vp_in; decide) ?_
    refine zr_goto hE1 eL_element_9 (tgt := 20) (by decide) ?_
    refine zr_iconst hE1 eL_element_20 (v := 0) (by decide) ?_
    exact hR1 _ _ _ _ _ eL_element_21 (h0 h)
  · intro E hEx
    rcases hEx with ⟨rfl, h⟩ | ⟨rfl, h⟩
    · refine ⟨14, el_hA _ rfl h5, ?_⟩
      refine zr_iconst hE1 eL_element_14 (v := 1) (by decide) ?_
      refine hR1 _ _ _ _ _ eL_element_15 ?_
      have q := h1 (by rw [h]; decide)
      rw [h] at q
      exact q
    · refine ⟨18, el_hS _ rfl h5, ?_⟩
      refine zr_iconst hE1 eL_element_18 (v := 2) (by decide) ?_
      refine hR1 _ _ _ _ _ eL_element_19 ?_
      have q := h1 (by rw [h]; decide)
      rw [h] at q
      exact q
theorem Inv.elT {w : ww} {d i : Int32} (hI : Inv w) : clT w d i = mlT w d i := by
  unfold clT mlT
  cases q : fIs d 0 7 with
  | false => rw [if_pos rfl, if_pos rfl]
  | true =>
    rw [if_neg (show ¬ (true = false) by decide), if_neg (show ¬ (true = false) by decide)]
    obtain ⟨dn, hd, rfl⟩ := fIs7 q
    have hS := (hI.2.2.1 dn hd).1
    rw [fSh_n hd, nI_clamp (by omega), hS]
    by_cases h : w 61 dn = 2
    · obtain ⟨n, n1, n2, n3, _, _⟩ := hI.row hd (hS.trans h)
      rw [n2, n3]
      have e : (decide (0 ≤ i) && decide (i < nI n)) = fIs i 0 (nI n - 1) := by
        rw [Bool.eq_iff_iff, isPc2 n1]
        simp
      rw [e]
    · rw [if_pos (Or.inl h), if_pos (Or.inl h)]
/-- the pair that the law compares in one call -/
theorem o_element {w : ww} {Q : Option Value → ww → Prop} {d i : Int32} (hI : Inv w)
    (hQ : ∀ (k : Int32) (w1 : ww), (∀ Q2 : Option Value → ww → Prop, (∀ (b : Int32) (w2 : ww), Inv w2 → w2 57 10 = k → (k = 0 → b = w2 71 0) → Q2 (some (.long b.toInt64)) w2) → Ct mX12_element 3 [.ref 57, .int d, .int i] w1 Q2) → Q (some (.int k)) w1) : CtX mL_element elT 7 [.ref 0, .int d, .int i, .ref 71] w Q := by
  have hz : fIs d 0 7 = true → w (fSh d) 1 = 2 → w (fSh d) 5 ≤ 100 := fun q h => by
    obtain ⟨dn, hd, rfl⟩ := fIs7 q
    rw [fSh_n hd] at h ⊢
    obtain ⟨n, n1, n2, _⟩ := hI.row hd h
    rw [n2, show (100 : Int32) = nI 100 from rfl, nI_leI (by omega) (by decide)]
    exact n1
  have hw : ∀ v, Inv (wu w 71 0 v) := fun v => hI.of (fun p hp => (wu_off (by unfold Ky at hp; omega)).symm) (wu_ne (by decide))
  have hw2 : ∀ x v, Inv x → Inv (wu x 57 10 v) := fun x v hx => hx.of (fun p hp => (wu_off (by unfold Ky at hp; omega)).symm) (wu_nj (by decide))
  refine c_L_element hz (fun h => hQ _ w (fun Q2 h2 => ?_)) (fun h => hQ 0 _ (fun Q2 h2 => ?_))
  · have h' := h
    rw [hI.elT] at h'
    refine c_X12_element hI.2.2.2 (fun _ => ?_) (fun dn m _ _ _ _ e => absurd e h')
    have := h2 0 (wu w 57 10 (mlT w d i)) (hw2 _ _ hI) (by rw [wu_eq, hI.elT]) (fun q => absurd q h)
    exact this
  · have hI2 := hw (sAt w (fSh d) i)
    have e0 : mlT (wu w 71 0 (sAt w (fSh d) i)) d i = mlT w d i := by
      unfold mlT
      rw [wu_ne (by decide), wu_ne (by decide)]
    have h' : mlT w d i = 0 := by rw [← hI.elT]; exact h
    refine c_X12_element hI2.2.2.2 (fun q => absurd (e0.trans h') q) (fun dn m hd e hm e2 _ => ?_)
    subst e
    subst e2
    rw [wu_ne (by decide)]
    refine h2 _ _ (hw2 _ _ hI2) wu_eq (fun _ => ?_)
    rw [wu_ne (by decide), wu_eq, fSh_n hd]
    have hcl : (w (41 + 2 * dn) 1 = 2) ∧ (decide ((0 : Int32) ≤ nI m) && decide (nI m < w (41 + 2 * dn) 5)) = true := by
      have h9 := h
      unfold clT at h9
      by_cases q : fIs (nI dn) 0 7 = false
      · rw [if_pos q] at h9; exact absurd h9 (by decide)
      · rw [if_neg q, fSh_n hd] at h9
        by_cases q2 : ¬ w (41 + 2 * dn) 1 = 2 ∨ (decide ((0 : Int32) ≤ nI m) && decide (nI m < w (41 + 2 * dn) 5)) = false
        · rw [if_pos q2] at h9; exact absurd h9 (by decide)
        · refine ⟨Classical.byContradiction fun z => q2 (Or.inl z), ?_⟩
          cases hb : (decide ((0 : Int32) ≤ nI m) && decide (nI m < w (41 + 2 * dn) 5))
          · exact absurd (Or.inr hb) q2
          · rfl
    obtain ⟨n, n1, n2, n3, n4, n5⟩ := hI.row hd hcl.1
    unfold sAt
    have h8 := hcl.2
    simp only [Bool.and_eq_true, decide_eq_true_eq] at h8
    rw [if_pos h8, nI_clamp (by omega), n5 m hm]
    rfl
