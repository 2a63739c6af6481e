/-! The reference: wrongAt, wrongOut, judge, out. -/
/-- the elements of a shelf -/
def fE (w : ww) (d : Nat) (j : Nat) : Int32 := w 64 (100 * d + j)
theorem fE_d (w : ww) (d j : Nat) : w 64 (100 * d + j) = fE w d j := rfl
theorem eix {dn j : Nat} : (100 : Int32) * nI dn + nI j = nI (100 * dn + j) := by
  rw [show (100 : Int32) = nI 100 from rfl, nI_mulN, nI_add]
set_option maxHeartbeats 4000000 in
theorem wa_lp {G : zG} {w : ww} {Q : Option Value → ww → Prop} {dn n c : Nat} {r : Int32} (hM : Mow w c) (hd : dn < 8) (hn100 : n ≤ 100) (hn : w 63 dn = nI n) (hR : zR RX12 cX12_wrongAt 5 7 (some .int) Q G) (hQ1 : 0 ≤ r → Q (some (.int r)) w) (hQ2 : ¬ 0 ≤ r → Q (some (.int (-4))) w) :
    ∀ (k i : Nat) (came : Int32), i ≤ n → n - i = k → (∀ j, j < i → vp_in (fE w dn j) 10 ∧ vp_in (mB w 0 (fE w dn j).toNatClampNeg) 8) → fmF (fE w dn) (nI c) (fun a b => fLi (mB w) a b (w 58 1)) k i came = r → G 4 [some (.ref 57), some (.int (nI dn)), some (.int came), some (.int (nI i)), none] [] w := by
  have hE := hR.1
  intro k
  induction k with
  | zero =>
    intro i came h1 h2 hok hr
    refine zr_iload_n hE eX12_wrongAt_4 rfl ?_
    refine zr_aload_n hE eX12_wrongAt_5 rfl ?_
    refine zr_getR hE eX12_wrongAt_6 fX12_25 zs57 rfl ?_
    refine zr_iload_n hE eX12_wrongAt_9 rfl ?_
    refine zr_ialdv hE eX12_wrongAt_10 zs63 (vpn (show dn < 8 by omega) (by decide)) ((congrArg (w 63) (nI_clamp (by omega))).trans hn) ?_
    refine zr_kicmp_ge hE eX12_wrongAt_11 (tgt := 87) (by decide) (fun zc11 zd11 => ?_) (fun zc11 zd11 => absurd zc11 (by rw [nI_ltI (by omega) (by omega)]; omega))
    refine zr_bipush hE eX12_wrongAt_87 (v := -4) (by decide) ?_
    refine hR.2.1 _ _ _ _ _ _ eX12_wrongAt_89 rfl rfl ?_
    rw [fmF] at hr
    exact hQ2 (by rw [← hr]; decide)
  | succ k ih =>
    intro i came h1 h2 hok hr
    have hin : i < n := by omega
    have xcn : nI c = nI c := rfl
    have hok2 : 0 ≤ fE w dn i ∧ fE w dn i < nI c → ∀ j, j < i + 1 → vp_in (fE w dn j) 10 ∧ vp_in (mB w 0 (fE w dn j).toNatClampNeg) 8 := fun q j hj => by
      by_cases q2 : j = i
      · rw [q2]
        have y := isB_ok hM (b := fE w dn i) (by rw [hM.2.1]; exact (isBc hM.1).mpr q)
        exact ⟨y.1, y.2.1⟩
      · exact hok j (by omega)
    refine zr_iload_n hE eX12_wrongAt_4 rfl ?_
    refine zr_aload_n hE eX12_wrongAt_5 rfl ?_
    refine zr_getR hE eX12_wrongAt_6 fX12_25 zs57 rfl ?_
    refine zr_iload_n hE eX12_wrongAt_9 rfl ?_
    refine zr_ialdv hE eX12_wrongAt_10 zs63 (vpn (show dn < 8 by omega) (by decide)) ((congrArg (w 63) (nI_clamp (by omega))).trans hn) ?_
    refine zr_kicmp_ge hE eX12_wrongAt_11 (tgt := 87) (by decide) (fun zc11 zd11 => absurd ((nI_ltI (by omega) (by omega)).mpr hin) zc11) (fun zc11 zd11 => ?_)
    refine zr_aload_n hE eX12_wrongAt_14 rfl ?_
    refine zr_getR hE eX12_wrongAt_15 fX12_28 zs57 rfl ?_
    refine zr_bipush hE eX12_wrongAt_18 (v := 100) (by decide) ?_
    refine zr_iload_n hE eX12_wrongAt_20 rfl ?_
    refine zr_imul hE eX12_wrongAt_21 ?_
    refine zr_iload_n hE eX12_wrongAt_22 rfl ?_
    refine zr_iadd hE eX12_wrongAt_23 ?_
    show G _ _ (.int ((100 : Int32) * nI dn + nI i) :: _) _
    rw [eix]
    refine zr_ialdv hE eX12_wrongAt_24 zs64 (vpn (show 100 * dn + i < 800 by omega) (by decide)) ((congrArg (w 64) (nI_clamp (by omega))).trans (fE_d w dn i)) ?_
    refine zr_istore hE eX12_wrongAt_25 (by decide) rfl ?_
    refine zr_aload_n hE eX12_wrongAt_27 rfl ?_
    refine zr_iload hE eX12_wrongAt_28 rfl ?_
    refine zr_callV1 hE eX12_wrongAt_30 lX12_126 zs57 rfl rfl (by decide) (Nat.le_of_ble_eq_true rfl) (c_X12_isBowl ?_)
    refine zr_beq hE eX12_wrongAt_33 (tgt := 72) (by decide) (fun zc33 => ?_) (fun zc33 => ?_)
    · refine zr_iload_n hE eX12_wrongAt_72 rfl ?_
      refine hR.2.1 _ _ _ _ _ _ eX12_wrongAt_73 rfl rfl ?_
      rw [fmF, if_pos (Or.inl (fun q => isB_no hM zc33 (q)))] at hr
      rw [← hr] at hQ1
      exact hQ1 (nI_pos' (by omega))
    · have xb := isB_ok hM zc33
      refine zr_iload_n hE eX12_wrongAt_36 rfl ?_
      refine zr_iload hE eX12_wrongAt_37 rfl ?_
      refine zr_ishr hE eX12_wrongAt_39 ?_
      refine zr_iconst hE eX12_wrongAt_40 (v := 1) (by decide) ?_
      refine zr_iand hE eX12_wrongAt_41 ?_
      refine zr_iconst hE eX12_wrongAt_42 (v := 1) (by decide) ?_
      refine zr_icmp_eq hE eX12_wrongAt_43 (tgt := 72) (by decide) (fun zc43 => ?_) (fun zc43 => ?_)
      · refine zr_iload_n hE eX12_wrongAt_72 rfl ?_
        refine hR.2.1 _ _ _ _ _ _ eX12_wrongAt_73 rfl rfl ?_
        rw [fmF, if_pos (Or.inr zc43)] at hr
        rw [← hr] at hQ1
        exact hQ1 (nI_pos' (by omega))
      · refine zr_iload_n hE eX12_wrongAt_46 rfl ?_
        refine zr_kif_le hE eX12_wrongAt_47 (tgt := 74) (by decide) (fun zc47 zd47 => ?_) (fun zc47 zd47 => ?_)
        · refine zr_iload_n hE eX12_wrongAt_74 rfl ?_
          refine zr_iconst hE eX12_wrongAt_75 (v := 1) (by decide) ?_
          refine zr_iload hE eX12_wrongAt_76 rfl ?_
          refine zr_ishl hE eX12_wrongAt_78 ?_
          refine zr_ior hE eX12_wrongAt_79 ?_
          refine zr_istore_n hE eX12_wrongAt_80 (by decide) rfl ?_
          refine zr_iincN hE eX12_wrongAt_81 rfl (by decide) rfl ?_
          refine zr_goto hE eX12_wrongAt_84 (tgt := 4) (by decide) ?_
          refine zr_mask hE [true, true, true, true, false] ?_
          refine ih (i + 1) _ (by omega) (by omega) (hok2 xb.2.2.1) (by rw [← hr, fmF, if_neg (fun q => q.elim (fun q => q (xb.2.2.1)) zc43), if_neg (fun q => zc47 ((nI_ltI (by decide) (by omega)).mpr q.1))])
        · obtain ⟨i0, rfl⟩ : ∃ i0, i = i0 + 1 := ⟨i - 1, by
            have := (nI_ltI (show 0 < 2 ^ 31 by decide) (by omega)).mp zc47
            omega⟩
          have xc := hok i0 (by omega)
          refine zr_aload_n hE eX12_wrongAt_50 rfl ?_
          refine zr_iload hE eX12_wrongAt_51 rfl ?_
          refine zr_aload_n hE eX12_wrongAt_53 rfl ?_
          refine zr_getR hE eX12_wrongAt_54 fX12_28 zs57 rfl ?_
          refine zr_bipush hE eX12_wrongAt_57 (v := 100) (by decide) ?_
          refine zr_iload_n hE eX12_wrongAt_59 rfl ?_
          refine zr_imul hE eX12_wrongAt_60 ?_
          refine zr_iload_n hE eX12_wrongAt_61 rfl ?_
          refine zr_iadd hE eX12_wrongAt_62 ?_
          refine zr_iconst hE eX12_wrongAt_63 (v := 1) (by decide) ?_
          refine zr_isub hE eX12_wrongAt_64 ?_
          show G _ _ (.int ((100 : Int32) * nI dn + nI (i0 + 1) - 1) :: _) _
          rw [eix, show 100 * dn + (i0 + 1) = (100 * dn + i0) + 1 by omega, nI_pred]
          refine zr_ialdv hE eX12_wrongAt_65 zs64 (vpn (show 100 * dn + i0 < 800 by omega) (by decide)) ((congrArg (w 64) (nI_clamp (by omega))).trans (fE_d w dn i0)) ?_
          refine zr_callV2 hE eX12_wrongAt_66 lX12_162 zs57 rfl rfl (by decide) (Nat.le_of_ble_eq_true rfl) (c_X12_liesNow xb.1 xc.1 xb.2.1 xc.2 ?_)
          refine zr_bne hE eX12_wrongAt_69 (tgt := 74) (by decide) (fun zc69 => ?_) (fun zc69 => ?_)
          · refine zr_iload_n hE eX12_wrongAt_74 rfl ?_
            refine zr_iconst hE eX12_wrongAt_75 (v := 1) (by decide) ?_
            refine zr_iload hE eX12_wrongAt_76 rfl ?_
            refine zr_ishl hE eX12_wrongAt_78 ?_
            refine zr_ior hE eX12_wrongAt_79 ?_
            refine zr_istore_n hE eX12_wrongAt_80 (by decide) rfl ?_
            refine zr_iincN hE eX12_wrongAt_81 rfl (by decide) rfl ?_
            refine zr_goto hE eX12_wrongAt_84 (tgt := 4) (by decide) ?_
            refine zr_mask hE [true, true, true, true, false] ?_
            refine ih (i0 + 1 + 1) _ (by omega) (by omega) (hok2 xb.2.2.1) (by rw [← hr, fmF, if_neg (fun q => q.elim (fun q => q (xb.2.2.1)) zc43), if_neg (fun q => by have := q.2; rw [Nat.add_sub_cancel] at this; rw [zc69] at this; cases this)])
          · refine zr_iload_n hE eX12_wrongAt_72 rfl ?_
            refine hR.2.1 _ _ _ _ _ _ eX12_wrongAt_73 rfl rfl ?_
            rw [fmF, if_neg (fun q => q.elim (fun q => q (xb.2.2.1)) zc43), if_pos ⟨by omega, by rw [Nat.add_sub_cancel]; exact zc69⟩] at hr
            rw [← hr] at hQ1
            exact hQ1 (nI_pos' (by omega))
set_option maxHeartbeats 4000000 in
theorem c_X12_wrongAt {dn n c : Nat} {r : Int32} {w : ww} {Q : Option Value → ww → Prop} (hM : Mow w c) (hd : dn < 8) (hn100 : n ≤ 100) (hn : w 63 dn = nI n) (hr : fmF (fE w dn) (nI c) (fun a b => fLi (mB w) a b (w 58 1)) n 0 0 = r) (hQ1 : 0 ≤ r → Q (some (.int r)) w) (hQ2 : ¬ 0 ≤ r → Q (some (.int (-4))) w) : Ct mX12_wrongAt 7 [.ref 57, .int (nI dn)] w Q := by
  refine Ct.of (by decide) (Nat.le_of_ble_eq_true rfl) (fun _ => Nat.le_of_ble_eq_true rfl) (fun G hR => ?_)
  have hE := hR.1
  refine zr_iconst hE eX12_wrongAt_0 (v := 0) (by decide) ?_
  refine zr_istore_n hE eX12_wrongAt_1 (by decide) rfl ?_
  refine zr_iconst hE eX12_wrongAt_2 (v := 0) (by decide) ?_
  refine zr_istore_n hE eX12_wrongAt_3 (by decide) rfl ?_
  exact wa_lp hM hd hn100 hn hR hQ1 hQ2 n 0 0 (Nat.zero_le _) rfl (fun j hj => absurd hj (by omega)) hr

