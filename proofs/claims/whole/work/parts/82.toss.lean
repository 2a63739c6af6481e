/-! toss of the class. -/
abbrev mX11_toss : zM := (yX11_toss, cX11_toss, 6, some .int)
def tossT : List (Nat × Nat × Nat × Nat) := [(38, 46, 47, 294), (38, 46, 60, 258), (38, 46, 68, 268)]
theorem toss_hU (L : zL) (hz : znl L = true) (h5 : ∀ u, ¬ L[5]? = some (some u)) : zHn RX11 cX11_toss 6 tossT 41 "java/lang/UnsupportedOperationException" L 49 := ⟨[], ⟨38, 46, 47, 294⟩, [⟨38, 46, 60, 258⟩, ⟨38, 46, 68, 268⟩], "java/lang/UnsupportedOperationException", 5, rfl, (fun z hz => nomatch hz), by decide, by decide, big_in (List.mem_of_getElem? (i := 768) (by decide +kernel)) rfl, casts_in (List.mem_of_getElem? (i := 781) (by decide +kernel)) rfl, eX11_toss_47, by decide, hz, h5⟩
theorem toss_hA (L : zL) (hz : znl L = true) (h5 : ∀ u, ¬ L[5]? = some (some u)) : zHn RX11 cX11_toss 6 tossT 41 "java/lang/IllegalArgumentException" L 62 := ⟨[⟨38, 46, 47, 294⟩], ⟨38, 46, 60, 258⟩, [⟨38, 46, 68, 268⟩], "java/lang/IllegalArgumentException", 5, rfl, (fun z hz => by
    rcases List.mem_cons.mp hz with rfl | hz
    · exact Or.inr ⟨by decide, "java/lang/UnsupportedOperationException", big_in (List.mem_of_getElem? (i := 768) (by decide +kernel)) rfl, by decide⟩
    · cases hz), by decide, by decide, big_in (List.mem_of_getElem? (i := 769) (by decide +kernel)) rfl, casts_in (List.mem_of_getElem? (i := 853) (by decide +kernel)) rfl, eX11_toss_60, by decide, hz, h5⟩
theorem toss_hS (L : zL) (hz : znl L = true) (h5 : ∀ u, ¬ L[5]? = some (some u)) : zHn RX11 cX11_toss 6 tossT 41 "java/lang/IllegalStateException" L 70 := ⟨[⟨38, 46, 47, 294⟩, ⟨38, 46, 60, 258⟩], ⟨38, 46, 68, 268⟩, [], "java/lang/IllegalStateException", 5, rfl, (fun z hz => by
    rcases List.mem_cons.mp hz with rfl | hz
    · exact Or.inr ⟨by decide, "java/lang/UnsupportedOperationException", big_in (List.mem_of_getElem? (i := 768) (by decide +kernel)) rfl, by decide⟩
    · rcases List.mem_cons.mp hz with rfl | hz
      · exact Or.inr ⟨by decide, "java/lang/IllegalArgumentException", big_in (List.mem_of_getElem? (i := 769) (by decide +kernel)) rfl, by decide⟩
      · cases hz), by decide, by decide, big_in (List.mem_of_getElem? (i := 770) (by decide +kernel)) rfl, casts_in (List.mem_of_getElem? (i := 875) (by decide +kernel)) rfl, eX11_toss_68, by decide, hz, h5⟩
set_option maxHeartbeats 4000000 in
theorem c_X11_toss {d : Int32} {w : ww} {Q : Option Value → ww → Prop} (hS : rfS w d 1 = 0 → vp_in (w (fSh d) 2) 8) (hQ : Q (some (.int (if rfS w d 1 = 0 then tsV (w (fSh d) 2) (w (fSh d) 3) else rfS w d 1))) w) : CtX mX11_toss tossT 7 [.ref 0, .int d] w Q := by
  refine CtX.of (by decide) (Nat.le_of_ble_eq_true rfl) (fun _ => Nat.le_of_ble_eq_true rfl) rfl (fun G0 G1 hX hR0 hR1 => ?_)
  have hE := hX.g0
  have hE1 := hX.g1
  have key : rfS w d 1 = 0 → G0 41 [some (.ref 0), some (.int d), some (.int (rfS w d 1)), some (.ref (2 + (w (fSh d) 2).toNatClampNeg)), some (.int (w (fSh d) 3)), none] [.int (w (fSh d) 3), .ref (2 + (w (fSh d) 2).toNatClampNeg)] w := by
    intro zc7
    rw [if_pos zc7] at hQ
    have hk := hS zc7
    generalize w (fSh d) 2 = kk at hQ hk ⊢
    generalize w (fSh d) 3 = ff at hQ ⊢
    generalize rfS w d 1 = rr
    have hret : Q (some (.int (-15))) w → G1 44 [some (.ref 0), some (.int d), some (.int rr), some (.ref (2 + kk.toNatClampNeg)), some (.int ff), none] [] w := fun h => by
      refine zr_bipush hE1 eX11_toss_44 (v := -15) (by decide) ?_
      exact hR1 _ _ _ _ _ eX11_toss_46 h
    have hS0 : Q (some (.int ff)) w → G1 70 [some (.ref 0), some (.int d), some (.int rr), some (.ref (2 + kk.toNatClampNeg)), some (.int ff), none] [] w := fun h => by
      refine zr_iload hE1 eX11_toss_70 rfl ?_
      exact hR1 _ _ _ _ _ eX11_toss_72 h
    have hA0 : Q (some (.int (100 + ff))) w → G1 62 [some (.ref 0), some (.int d), some (.int rr), some (.ref (2 + kk.toNatClampNeg)), some (.int ff), none] [] w := fun h => by
      refine zr_bipush hE1 eX11_toss_62 (v := 100) (by decide) ?_
      refine zr_iload hE1 eX11_toss_64 rfl ?_
      refine zr_iadd hE1 eX11_toss_66 ?_
      exact hR1 _ _ _ _ _ eX11_toss_67 h
    have hU0 : Q (some (.int (200 + coK kk ff))) w → G1 49 [some (.ref 0), some (.int d), some (.int rr), some (.ref (2 + kk.toNatClampNeg)), some (.int ff), none] [] w := fun h => by
      refine zr_sipush hE1 eX11_toss_49 (v := 200) (by decide) ?_
      refine zr_aload_n hE1 eX11_toss_52 rfl ?_
      refine zr_iload hE1 eX11_toss_53 rfl ?_
      refine zr_vX11_cost hE1 eX11_toss_55 hk (by decide) (Nat.le_of_ble_eq_true rfl) ?_
      refine zr_iadd hE1 eX11_toss_58 ?_
      exact hR1 _ _ _ _ _ eX11_toss_59 h
    have h5 : ∀ u, ¬ ([some (.ref 0), some (.int d), some (.int rr), some (.ref (2 + kk.toNatClampNeg)), some (.int ff), none] : zL)[5]? = some (some u) := fun u h => by simp at h
    unfold tsV at hQ
    rcases vp8 hk with rfl | rfl | rfl | rfl | rfl | rfl | rfl | rfl
    · exact hX.fail (o := 2) (q := (RX0, TX0, 0)) eX11_toss_41 lX11_291_Bowl rfl rfl (by decide) (Nat.le_of_ble_eq_true rfl) c_X0_fail (fun q => hret (by rw [if_pos (Or.inr q)] at hQ; exact hQ)) (fun q => ⟨toss_hS _ rfl h5, hS0 (by rw [if_neg (fun z => by rcases z with z | z; exact absurd z (by decide); exact q z), if_neg (by decide), if_neg (by decide)] at hQ; exact hQ)⟩)
    · exact hX.fail (o := 3) (q := (RX8, TX8, 0)) eX11_toss_41 lX11_291_Oval rfl rfl (by decide) (Nat.le_of_ble_eq_true rfl) c_X0_fail (fun q => hret (by rw [if_pos (Or.inr q)] at hQ; exact hQ)) (fun q => ⟨toss_hS _ rfl h5, hS0 (by rw [if_neg (fun z => by rcases z with z | z; exact absurd z (by decide); exact q z), if_neg (by decide), if_neg (by decide)] at hQ; exact hQ)⟩)
    · exact hX.fail (o := 4) (q := (RX6, TX6, 0)) eX11_toss_41 lX11_291_Lid rfl rfl (by decide) (Nat.le_of_ble_eq_true rfl) c_X0_fail (fun q => hret (by rw [if_pos (Or.inr q)] at hQ; exact hQ)) (fun q => ⟨toss_hS _ rfl h5, hS0 (by rw [if_neg (fun z => by rcases z with z | z; exact absurd z (by decide); exact q z), if_neg (by decide), if_neg (by decide)] at hQ; exact hQ)⟩)
    · exact hX.fail (o := 5) (q := (RX3, TX3, 0)) eX11_toss_41 lX11_291_Foot rfl rfl (by decide) (Nat.le_of_ble_eq_true rfl) c_X0_fail (fun q => hret (by rw [if_pos (Or.inr q)] at hQ; exact hQ)) (fun q => ⟨toss_hS _ rfl h5, hS0 (by rw [if_neg (fun z => by rcases z with z | z; exact absurd z (by decide); exact q z), if_neg (by decide), if_neg (by decide)] at hQ; exact hQ)⟩)
    · exact hX.fail (o := 6) (nh := 0) (q := (RX9, TX9, 0)) eX11_toss_41 lX11_291_Second rfl rfl (by decide) (Nat.le_of_ble_eq_true rfl) c_X9_fail (fun _ => hret (by rw [if_pos (Or.inl rfl)] at hQ; exact hQ)) (fun q => absurd trivial q)
    · exact hX.fail (o := 7) (q := (RX4, TX4, 0)) eX11_toss_41 lX11_291_Glued rfl rfl (by decide) (Nat.le_of_ble_eq_true rfl) c_X4_fail (fun q => hret (by rw [if_pos (Or.inr q)] at hQ; exact hQ)) (fun q => ⟨toss_hA _ rfl h5, hA0 (by rw [if_neg (fun z => by rcases z with z | z; exact absurd z (by decide); exact q z), if_pos rfl] at hQ; exact hQ)⟩)
    · exact hX.fail (o := 8) (q := (RX1, TX1, 0)) eX11_toss_41 lX11_291_Deep rfl rfl (by decide) (Nat.le_of_ble_eq_true rfl) c_X0_fail (fun q => hret (by rw [if_pos (Or.inr q)] at hQ; exact hQ)) (fun q => ⟨toss_hS _ rfl h5, hS0 (by rw [if_neg (fun z => by rcases z with z | z; exact absurd z (by decide); exact q z), if_neg (by decide), if_neg (by decide)] at hQ; exact hQ)⟩)
    · exact hX.fail (o := 9) (q := (RX2, TX2, 0)) eX11_toss_41 lX11_291_Flat rfl rfl (by decide) (Nat.le_of_ble_eq_true rfl) c_X2_fail (fun q => hret (by rw [if_pos (Or.inr q)] at hQ; exact hQ)) (fun q => ⟨toss_hU _ rfl h5, hU0 (by rw [if_neg (fun z => by rcases z with z | z; exact absurd z (by decide); exact q z), if_neg (by decide), if_pos rfl] at hQ; exact hQ)⟩)
  refine zr_aload_n hE eX11_toss_0 rfl ?_
  refine zr_iload_n hE eX11_toss_1 rfl ?_
  refine zr_callV1 hE eX11_toss_2 lX11_127 zs0 rfl rfl (by decide) (Nat.le_of_ble_eq_true rfl) (c_X11_bowlRefusal ?_)
  refine zr_istore_n hE eX11_toss_5 (by decide) rfl ?_
  refine zr_iload_n hE eX11_toss_6 rfl ?_
  refine zr_if_eq hE eX11_toss_7 (tgt := 12) (by decide) (fun zc7 => ?_) (fun zc7 => ?_)
  · refine zr_aload_n hE eX11_toss_12 rfl ?_
    refine zr_getR hE eX11_toss_13 fX11_33 zs0 rfl ?_
    refine zr_aload_n hE eX11_toss_16 rfl ?_
    refine zr_getR hE eX11_toss_17 fX11_61 zs0 rfl ?_
    refine zr_iload_n hE eX11_toss_20 rfl ?_
    refine zr_shelves hE eX11_toss_21 (fIs_vp (rfS_is zc7)) ?_
    refine zr_getI hE eX11_toss_22 fX11_130 ((fSh_sf (rfS_is zc7))).s0 rfl ?_
    refine zr_kinds hE eX11_toss_25 (hS zc7) ?_
    refine zr_astore_n hE eX11_toss_26 (by decide) rfl ?_
    refine zr_aload_n hE eX11_toss_27 rfl ?_
    refine zr_getR hE eX11_toss_28 fX11_61 zs0 rfl ?_
    refine zr_iload_n hE eX11_toss_31 rfl ?_
    refine zr_shelves hE eX11_toss_32 (fIs_vp (rfS_is zc7)) ?_
    refine zr_getI hE eX11_toss_33 fX11_132 ((fSh_sf (rfS_is zc7))).s0 rfl ?_
    refine zr_istore hE eX11_toss_36 (by decide) rfl ?_
    refine zr_aload_n hE eX11_toss_38 rfl ?_
    refine zr_iload hE eX11_toss_39 rfl ?_
    exact key zc7
  · refine zr_iload_n hE eX11_toss_10 rfl ?_
    exact hR0 _ _ _ _ _ eX11_toss_11 (by rw [if_neg zc7] at hQ; exact hQ)
theorem o_toss {w : ww} {Q : Option Value → ww → Prop} {d : Int32} (hI : Inv w) (hQ : ∀ rz w1, Pr mX12_toss 4 [.ref 57, .int d] rz w1 → Q (some (.int rz)) w1) : CtX mX11_toss tossT 7 [.ref 0, .int d] w Q := by
  obtain ⟨c, hR⟩ := hI.1
  have hk : mrK w d = 0 → ∃ dn, dn < 8 ∧ d = nI dn ∧ w (41 + 2 * dn) 2 = w 65 dn ∧ w (41 + 2 * dn) 3 = w 66 dn ∧ vp_in (w 65 dn) 8 := fun h => by
    obtain ⟨dn, hd, rfl, h4⟩ := rfS_2 (hI.rK.trans h)
    have hS := hI.2.2.1 dn hd
    rw [hS.1] at h4
    rcases hS.2 with x | x | x
    · rw [h4] at x; exact absurd x (by decide)
    · obtain ⟨k, k1, k2⟩ := x.2.2.2.1
      exact ⟨dn, hd, rfl, x.2.1, x.2.2.1, by rw [k2]; exact vpn (by omega) (by decide)⟩
    · rw [h4] at x; exact absurd x.1 (by decide)
  refine c_X11_toss (fun h => ?_) (hQ _ w (fun Q2 h2 => ?_))
  · obtain ⟨dn, hd, rfl, e1, _, e3⟩ := hk (hI.rK.symm.trans h)
    rw [fSh_n hd, e1]; exact e3
  · refine c_X12_toss (fun h => ?_) (zqe (h2 w hI) ?_)
    · obtain ⟨dn, hd, rfl, _, _, e3⟩ := hk h
      rw [nI_clamp (by omega)]; exact e3
    · rw [hI.rK]
      by_cases h : mrK w d = 0
      · obtain ⟨dn, hd, rfl, e1, e2, _⟩ := hk h
        rw [if_pos h, if_pos h, fSh_n hd, e1, e2, nI_clamp (by omega)]
      · rw [if_neg h, if_neg h]
