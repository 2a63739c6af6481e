/-! The reference: wrongOut, out, perhaps, next. -/
def mwV (w : ww) (c dn : Nat) : Int32 := if 0 ≤ mfW w c dn then mfW w c dn else -4
theorem c_wrongAt3 {c dn : Nat} {w : ww} {Q : Option Value → ww → Prop} (hM : Mow w c) (hZ : Msz w) (hd : dn < 8) (hQ : Q (some (.int (mwV w c dn))) w) : Ct mX12_wrongAt 7 [.ref 57, .int (nI dn)] w Q := by
  unfold mwV at hQ
  refine c_wrongAt2 hM hZ hd (fun q => ?_) (fun q => ?_)
  · rw [if_pos q] at hQ; exact hQ
  · rw [if_neg q] at hQ; exact hQ
theorem mwV_lt {w : ww} {c dn : Nat} : mwV w c dn < 0 ↔ ¬ 0 ≤ mfW w c dn := by
  unfold mwV
  constructor
  · intro h q; rw [if_pos q] at h; exact Int32.lt_irrefl (Int32.lt_of_le_of_lt q h)
  · intro q; rw [if_neg q]; decide
def mwO (w : ww) (c : Nat) (d : Int32) : Int32 := if mrR w d 0 = 0 then (if w 63 d.toNatClampNeg = 0 ∨ 0 ≤ mfW w c d.toNatClampNeg then -13 else 0) else mrR w d 0
theorem mwO_0 {w : ww} {c : Nat} {d : Int32} (h : mwO w c d = 0) : ∃ dn, dn < 8 ∧ d = nI dn ∧ mrR w d 0 = 0 ∧ ¬ w 63 dn = 0 ∧ ¬ 0 ≤ mfW w c dn := by
  unfold mwO at h
  by_cases q : mrR w d 0 = 0
  · rw [if_pos q] at h
    obtain ⟨dn, hd, rfl⟩ := mrR_0 q
    rw [nI_clamp (by omega)] at h
    by_cases q2 : w 63 dn = 0 ∨ 0 ≤ mfW w c dn
    · rw [if_pos q2] at h; exact absurd h (by decide)
    · exact ⟨dn, hd, rfl, q, fun x => q2 (Or.inl x), fun x => q2 (Or.inr x)⟩
  · rw [if_neg q] at h; exact absurd h q
set_option maxHeartbeats 4000000 in
theorem c_X12_wrongOut {c : Nat} {d : Int32} {w : ww} {Q : Option Value → ww → Prop} (hM : Mow w c) (hZ : Msz w) (hQ : Q (some (.int (mwO w c d))) w) : Ct mX12_wrongOut 8 [.ref 57, .int d] w Q := by
  refine Ct.of (by decide) (Nat.le_of_ble_eq_true rfl) (fun _ => Nat.le_of_ble_eq_true rfl) (fun G hR => ?_)
  have hE := hR.1
  refine zr_aload_n hE eX12_wrongOut_0 rfl ?_
  refine zr_iload_n hE eX12_wrongOut_1 rfl ?_
  refine zr_iconst hE eX12_wrongOut_2 (v := 0) (by decide) ?_
  refine zr_callV2 hE eX12_wrongOut_3 lX12_132 zs57 rfl rfl (by decide) (Nat.le_of_ble_eq_true rfl) (c_X12_wrongRow ?_)
  refine zr_istore_n hE eX12_wrongOut_6 (by decide) rfl ?_
  refine zr_iload_n hE eX12_wrongOut_7 rfl ?_
  refine zr_if_eq hE eX12_wrongOut_8 (tgt := 13) (by decide) (fun zc8 => ?_) (fun zc8 => ?_)
  · obtain ⟨dn, hdn, rfl⟩ := mrR_0 zc8
    have xe1 : (nI dn).toNatClampNeg = dn := nI_clamp (by omega)
    unfold mwO at hQ
    rw [if_pos zc8, xe1] at hQ
    refine zr_aload_n hE eX12_wrongOut_13 rfl ?_
    refine zr_getR hE eX12_wrongOut_14 fX12_25 zs57 rfl ?_
    refine zr_iload_n hE eX12_wrongOut_17 rfl ?_
    refine zr_iald hE eX12_wrongOut_18 zs63 (vpn hdn (by decide)) ?_
    rw [xe1]
    refine zr_if_eq hE eX12_wrongOut_19 (tgt := 30) (by decide) (fun zc19 => ?_) (fun zc19 => ?_)
    · refine zr_bipush hE eX12_wrongOut_30 (v := -13) (by decide) ?_
      refine zr_goto hE eX12_wrongOut_32 (tgt := 36) (by decide) ?_
      refine hR.2.1 _ _ _ _ _ _ eX12_wrongOut_36 rfl rfl ?_
      rw [if_pos (Or.inl zc19)] at hQ
      exact hQ
    · refine zr_aload_n hE eX12_wrongOut_22 rfl ?_
      refine zr_iload_n hE eX12_wrongOut_23 rfl ?_
      refine zr_callV1 hE eX12_wrongOut_24 lX12_202 zs57 rfl rfl (by decide) (Nat.le_of_ble_eq_true rfl) (c_wrongAt3 hM hZ hdn ?_)
      refine zr_kif_lt hE eX12_wrongOut_27 (tgt := 35) (by decide) (fun zc27 zd27 => ?_) (fun zc27 zd27 => ?_)
      · refine zr_iconst hE eX12_wrongOut_35 (v := 0) (by decide) ?_
        refine hR.2.1 _ _ _ _ _ _ eX12_wrongOut_36 rfl rfl ?_
        rw [if_neg (fun q => q.elim zc19 (mwV_lt.mp zd27))] at hQ
        exact hQ
      · refine zr_bipush hE eX12_wrongOut_30 (v := -13) (by decide) ?_
        refine zr_goto hE eX12_wrongOut_32 (tgt := 36) (by decide) ?_
        refine hR.2.1 _ _ _ _ _ _ eX12_wrongOut_36 rfl rfl ?_
        rw [if_pos (Or.inr (Decidable.not_not.mp (fun q => zd27 (mwV_lt.mpr q))))] at hQ
        exact hQ
  · refine zr_iload_n hE eX12_wrongOut_11 rfl ?_
    refine hR.2.1 _ _ _ _ _ _ eX12_wrongOut_12 rfl rfl ?_
    unfold mwO at hQ
    rw [if_neg zc8] at hQ
    exact hQ

def moR (w : ww) (c : Nat) (d v : Int32) : Int32 := if fIs d 0 7 = true ∧ fIs v 0 9 = true then (if mwO w c d = 0 then ouF (fE w d.toNatClampNeg) (fun a b => fLi (mB w) a b v) (w 63 d.toNatClampNeg).toNatClampNeg 0 else mwO w c d) else -1
set_option maxHeartbeats 4000000 in
theorem mo_lp {G : zG} {w : ww} {Q : Option Value → ww → Prop} {v r z : Int32} {dn xn c : Nat} (hR : zR RX12 cX12_out 6 9 (some .int) Q G) (hM : Mow w c) (hd : dn < 8) (xn1 : xn ≤ 100) (xok : ∀ j, j < xn → 0 ≤ fE w dn j ∧ fE w dn j < nI c) (hQ : Q (some (.int r)) w) :
    ∀ (m : Nat) (t : Int32), m < xn → ouF (fE w dn) (fun a b => fLi (mB w) a b v) (m + 1) t = r → G 46 [some (.ref 57), some (.int (nI dn)), some (.int v), some (.int z), some (.int t), some (.int (nI m))] [] w := by
  have hE := hR.1
  intro m
  induction m with
  | zero =>
    intro t h1 hr
    have m0 : Nat := 0
    have xz : ¬ (0 : Int32) < nI 0 := by decide
    refine zr_iload hE eX12_out_46 rfl ?_
    refine zr_kif_le hE eX12_out_48 (tgt := 97) (by decide) (fun zc48 zd48 => ?_) (fun zc48 zd48 => absurd zc48 xz)
    refine zr_iload hE eX12_out_97 rfl ?_
    refine zr_iconst hE eX12_out_99 (v := 1) (by decide) ?_
    refine zr_iadd hE eX12_out_100 ?_
    refine hR.2.1 _ _ _ _ _ _ eX12_out_101 rfl rfl ?_
    rw [ouF, if_neg (fun x => absurd x.1 (by decide)), ouF] at hr
    rw [hr]
    exact hQ
  | succ m1 ih =>
    intro t h1 hr
    refine zr_iload hE eX12_out_46 rfl ?_
    refine zr_kif_le hE eX12_out_48 (tgt := 97) (by decide) (fun zc48 zd48 => absurd ((nI_ltI (show 0 < 2 ^ 31 by decide) (show m1 + 1 < 2 ^ 31 by omega)).mpr (Nat.succ_pos m1)) zc48) (fun zc48 zd48 => ?_)
    have xb := isB_ok hM (b := fE w dn (m1 + 1)) (by rw [hM.2.1]; exact (isBc hM.1).mpr (xok (m1 + 1) (by omega)))
    have xc := isB_ok hM (b := fE w dn m1) (by rw [hM.2.1]; exact (isBc hM.1).mpr (xok m1 (by omega)))
    refine zr_aload_n hE eX12_out_51 rfl ?_
    refine zr_aload_n hE eX12_out_52 rfl ?_
    refine zr_getR hE eX12_out_53 fX12_28 zs57 rfl ?_
    refine zr_bipush hE eX12_out_56 (v := 100) (by decide) ?_
    refine zr_iload_n hE eX12_out_58 rfl ?_
    refine zr_imul hE eX12_out_59 ?_
    refine zr_iload hE eX12_out_60 rfl ?_
    refine zr_iadd hE eX12_out_62 ?_
    show G _ _ (.int ((100 : Int32) * nI dn + nI (m1 + 1)) :: _) _
    rw [eix]
    refine zr_ialdv hE eX12_out_63 zs64 (vpn (show 100 * dn + (m1 + 1) < 800 by omega) (by decide)) ((congrArg (w 64) (nI_clamp (by omega))).trans (fE_d w dn (m1 + 1))) ?_
    refine zr_aload_n hE eX12_out_64 rfl ?_
    refine zr_getR hE eX12_out_65 fX12_28 zs57 rfl ?_
    refine zr_bipush hE eX12_out_68 (v := 100) (by decide) ?_
    refine zr_iload_n hE eX12_out_70 rfl ?_
    refine zr_imul hE eX12_out_71 ?_
    refine zr_iload hE eX12_out_72 rfl ?_
    refine zr_iadd hE eX12_out_74 ?_
    refine zr_iconst hE eX12_out_75 (v := 1) (by decide) ?_
    refine zr_isub hE eX12_out_76 ?_
    show G _ _ (.int ((100 : Int32) * nI dn + nI (m1 + 1) - 1) :: _) _
    rw [eix, show 100 * dn + (m1 + 1) = (100 * dn + m1) + 1 by omega, nI_pred]
    refine zr_ialdv hE eX12_out_77 zs64 (vpn (show 100 * dn + m1 < 800 by omega) (by decide)) ((congrArg (w 64) (nI_clamp (by omega))).trans (fE_d w dn m1)) ?_
    refine zr_iload_n hE eX12_out_78 rfl ?_
    refine zr_callV3 hE eX12_out_79 lX12_89 zs57 rfl rfl (by decide) (Nat.le_of_ble_eq_true rfl) (c_X12_liesAt xb.1 xc.1 xb.2.1 xc.2.1 ?_)
    refine zr_bne hE eX12_out_82 (tgt := 88) (by decide) (fun zc82 => ?_) (fun zc82 => ?_)
    · refine zr_iinc hE eX12_out_88 rfl rfl (by decide) rfl ?_
      refine zr_idecN hE eX12_out_91 rfl (by decide) rfl ?_
      refine zr_goto hE eX12_out_94 (tgt := 46) (by decide) ?_
      exact ih _ (by omega) (by rw [← hr]; symm; rw [ouF, if_neg (fun x => by rw [Nat.add_sub_cancel, zc82] at x; exact absurd x.2 (by decide))]; rfl)
    · refine zr_iload hE eX12_out_85 rfl ?_
      refine hR.2.1 _ _ _ _ _ _ eX12_out_87 rfl rfl ?_
      rw [ouF, if_pos ⟨by omega, by rw [Nat.add_sub_cancel]; exact zc82⟩] at hr
      rw [hr]
      exact hQ
set_option maxHeartbeats 4000000 in
theorem c_X12_out {c : Nat} {d v : Int32} {w : ww} {Q : Option Value → ww → Prop} (hM : Mow w c) (hZ : Msz w) (hQ : Q (some (.int (moR w c d v))) w) : Ct mX12_out 9 [.ref 57, .int d, .int v] w Q := by
  refine Ct.of (by decide) (Nat.le_of_ble_eq_true rfl) (fun _ => Nat.le_of_ble_eq_true rfl) (fun G hR => ?_)
  have hE := hR.1
  refine zr_iload_n hE eX12_out_0 rfl ?_
  refine zr_callS1 hE eX12_out_1 lX12_129 (by decide) (Nat.le_of_ble_eq_true rfl) (c_X12_isShelf ?_)
  refine zr_beq hE eX12_out_4 (tgt := 19) (by decide) (fun zc4 => ?_) (fun zc4 => ?_)
  · refine zr_iconst hE eX12_out_19 (v := -1) (by decide) ?_
    refine hR.2.1 _ _ _ _ _ _ eX12_out_20 rfl rfl ?_
    unfold moR at hQ
    rw [if_neg (fun q => by rw [zc4] at q; cases q.1)] at hQ
    exact hQ
  · refine zr_iload_n hE eX12_out_7 rfl ?_
    refine zr_i2l hE eX12_out_8 ?_
    refine zr_lconst hE eX12_out_9 (v := 0) (by decide) ?_
    refine zr_ldc2 hE eX12_out_10 hX12_160 ?_
    refine zr_callS3 hE eX12_out_13 lX12_55 (by decide) (Nat.le_of_ble_eq_true rfl) (c_X12_isIn32 0 9 (by decide) (by decide) ?_)
    refine zr_bne hE eX12_out_16 (tgt := 21) (by decide) (fun zc16 => ?_) (fun zc16 => ?_)
    · refine zr_aload_n hE eX12_out_21 rfl ?_
      refine zr_iload_n hE eX12_out_22 rfl ?_
      refine zr_callV1 hE eX12_out_23 lX12_205 zs57 rfl rfl (by decide) (Nat.le_of_ble_eq_true rfl) (c_X12_wrongOut hM hZ ?_)
      refine zr_istore_n hE eX12_out_26 (by decide) rfl ?_
      refine zr_iload_n hE eX12_out_27 rfl ?_
      refine zr_if_eq hE eX12_out_28 (tgt := 33) (by decide) (fun zc28 => ?_) (fun zc28 => ?_)
      · obtain ⟨dn, hdn, rfl, x0, x1, x2⟩ := mwO_0 zc28
        have xe1 : (nI dn).toNatClampNeg = dn := nI_clamp (by omega)
        obtain ⟨xn, xn1, xn2⟩ := hZ dn hdn
        have hxn : (nI xn).toNatClampNeg = xn := nI_clamp (by omega)
        have xp : 0 < xn := Nat.pos_of_ne_zero (fun q => x1 (by rw [xn2, q]; rfl))
        unfold moR at hQ
        rw [if_pos ⟨zc4, zc16⟩, if_pos zc28, xe1, xn2, hxn] at hQ
        refine zr_iconst hE eX12_out_33 (v := 0) (by decide) ?_
        refine zr_istore hE eX12_out_34 (by decide) rfl ?_
        refine zr_aload_n hE eX12_out_36 rfl ?_
        refine zr_getR hE eX12_out_37 fX12_25 zs57 rfl ?_
        refine zr_iload_n hE eX12_out_40 rfl ?_
        refine zr_iald hE eX12_out_41 zs63 (vpn hdn (by decide)) ?_
        rw [xe1, xn2]
        refine zr_iconst hE eX12_out_42 (v := 1) (by decide) ?_
        refine zr_isub hE eX12_out_43 ?_
        refine zr_istore hE eX12_out_44 (by decide) rfl ?_
        obtain ⟨y, rfl⟩ : ∃ y, xn = y + 1 := ⟨xn - 1, by omega⟩
        rw [nI_pred]
        refine mo_lp hR hM hdn xn1 (fun j hj => ?_) hQ y 0 (by omega) rfl
        unfold mfW at x2
        rw [xn2, hxn] at x2
        exact fmF_ok (y + 1) 0 0 (by omega) x2 j (Nat.zero_le _) (by omega)
      · refine zr_iload_n hE eX12_out_31 rfl ?_
        refine hR.2.1 _ _ _ _ _ _ eX12_out_32 rfl rfl ?_
        unfold moR at hQ
        rw [if_pos ⟨zc4, zc16⟩, if_neg zc28] at hQ
        exact hQ
    · refine zr_iconst hE eX12_out_19 (v := -1) (by decide) ?_
      refine hR.2.1 _ _ _ _ _ _ eX12_out_20 rfl rfl ?_
      unfold moR at hQ
      rw [if_neg (fun q => by rw [zc16] at q; cases q.2)] at hQ
      exact hQ

set_option maxHeartbeats 4000000 in
theorem c_X12_perhaps {kn c : Nat} {e : Int32} {w : ww} {Q : Option Value → ww → Prop} (hkn : kn < 10) (hM : Mow w c) (hQ : Q (some (.int (fPp (mB w) (w 58 1) e kn c))) w) : Ct mX12_perhaps 5 [.ref 57, .int e, .int (nI kn)] w Q := by
  refine Ct.of (by decide) (Nat.le_of_ble_eq_true rfl) (fun _ => Nat.le_of_ble_eq_true rfl) (fun G hR => ?_)
  have hE := hR.1
  have hc9 := hM.1
  have loop : ∀ (k a : Nat), a ≤ c → c - a = k → ∀ s : Int32, s = sumN (fun a => sumN (fun b => one (!decide (a = b) && decide (fSp (mB w) a (if a = kn then 0 else e) b (if b = kn then 0 else e) (w 58 1) = 1))) c) a → G 5 [some (.ref 57), some (.int e), some (.int (nI kn)), some (.int s), some (.int (nI a)), none] [] w := by
    intro k
    induction k with
    | zero =>
      intro a h1 h2 s hs
      have hac : a = c := by omega
      subst hac
      refine zr_iload hE eX12_perhaps_5 rfl ?_
      refine zr_aload_n hE eX12_perhaps_7 rfl ?_
      refine zr_getR hE eX12_perhaps_8 fX12_9 zs57 rfl ?_
      refine zr_iconst hE eX12_perhaps_11 (v := 0) (by decide) ?_
      refine zr_ialdv hE eX12_perhaps_12 zs58 (by unfold vp_in; decide) hM.2.1 ?_
      refine zr_kicmp_ge hE eX12_perhaps_13 (tgt := 91) (by decide) (fun zc13 zd13 => ?_) (fun zc13 zd13 => absurd zc13 (by rw [nI_ltI (by omega) (by omega)]; omega))
      refine zr_iload_n hE eX12_perhaps_91 rfl ?_
      refine hR.2.1 _ _ _ _ _ _ eX12_perhaps_92 rfl rfl ?_
      refine zq hQ ?_
      rw [hs]; rfl
    | succ k ih =>
      intro a h1 h2 s hs
      have ha0 : a < c := by omega
      have loop2 : ∀ (k2 b : Nat), b ≤ c → c - b = k2 → ∀ s2 : Int32, s2 = sumN (fun a => sumN (fun b => one (!decide (a = b) && decide (fSp (mB w) a (if a = kn then 0 else e) b (if b = kn then 0 else e) (w 58 1) = 1))) c) a + sumN (fun b => one (!decide (a = b) && decide (fSp (mB w) a (if a = kn then 0 else e) b (if b = kn then 0 else e) (w 58 1) = 1))) b → G 19 [some (.ref 57), some (.int e), some (.int (nI kn)), some (.int s2), some (.int (nI a)), some (.int (nI b))] [] w := by
        intro k2
        induction k2 with
        | zero =>
          intro b h3 h4 s2 hs2
          have hbc : b = c := by omega
          subst hbc
          refine zr_iload hE eX12_perhaps_19 rfl ?_
          refine zr_aload_n hE eX12_perhaps_21 rfl ?_
          refine zr_getR hE eX12_perhaps_22 fX12_9 zs57 rfl ?_
          refine zr_iconst hE eX12_perhaps_25 (v := 0) (by decide) ?_
          refine zr_ialdv hE eX12_perhaps_26 zs58 (by unfold vp_in; decide) hM.2.1 ?_
          refine zr_kicmp_ge hE eX12_perhaps_27 (tgt := 85) (by decide) (fun zc27 zd27 => ?_) (fun zc27 zd27 => absurd zc27 (by rw [nI_ltI (by omega) (by omega)]; omega))
          refine zr_iincN hE eX12_perhaps_85 rfl (by decide) rfl ?_
          refine zr_goto hE eX12_perhaps_88 (tgt := 5) (by decide) ?_
          refine zr_mask hE [true, true, true, true, true, false] ?_
          exact ih (a + 1) (by omega) (by omega) _ (by rw [hs2]; rfl)
        | succ k2 ih2 =>
          intro b h3 h4 s2 hs2
          have hb0 : b < c := by omega
          refine zr_iload hE eX12_perhaps_19 rfl ?_
          refine zr_aload_n hE eX12_perhaps_21 rfl ?_
          refine zr_getR hE eX12_perhaps_22 fX12_9 zs57 rfl ?_
          refine zr_iconst hE eX12_perhaps_25 (v := 0) (by decide) ?_
          refine zr_ialdv hE eX12_perhaps_26 zs58 (by unfold vp_in; decide) hM.2.1 ?_
          refine zr_kicmp_ge hE eX12_perhaps_27 (tgt := 85) (by decide) (fun zc27 zd27 => absurd ((nI_ltI (by omega) (by omega)).mpr hb0) zc27) (fun zc27 zd27 => ?_)
          refine zr_iload_n hE eX12_perhaps_30 rfl ?_
          refine zr_iload hE eX12_perhaps_31 rfl ?_
          refine zr_iload hE eX12_perhaps_33 rfl ?_
          refine zr_icmp_eq hE eX12_perhaps_35 (tgt := 76) (by decide) (fun zc35 => ?_) (fun zc35 => ?_)
          · refine zr_iconst hE eX12_perhaps_76 (v := 0) (by decide) ?_
            refine zr_iadd hE eX12_perhaps_77 ?_
            refine zr_istore_n hE eX12_perhaps_78 (by decide) rfl ?_
            refine zr_iincN hE eX12_perhaps_79 rfl (by decide) rfl ?_
            refine zr_goto hE eX12_perhaps_82 (tgt := 19) (by decide) ?_
            exact ih2 (b + 1) (by omega) (by omega) _ (by
              rw [hs2, sumN]
              have q : a = b := (nI_eq (by omega) (by omega)).mp zc35
              simp only [q, decide_true, Bool.not_true, Bool.false_and, one, Int32.add_zero])
          · refine zr_aload_n hE eX12_perhaps_38 rfl ?_
            refine zr_iload hE eX12_perhaps_39 rfl ?_
            refine zr_iload hE eX12_perhaps_41 rfl ?_
            refine zr_iload hE eX12_perhaps_43 rfl ?_
            refine zr_iload_n hE eX12_perhaps_45 rfl ?_
            refine zr_icmp_ne hE eX12_perhaps_46 (tgt := 53) (by decide) (fun zc46 => ?_) (fun zc46 => ?_)
            · refine zr_iload_n hE eX12_perhaps_53 rfl ?_
              refine zr_iload hE eX12_perhaps_54 rfl ?_
              refine zr_iload_n hE eX12_perhaps_56 rfl ?_
              refine zr_icmp_ne hE eX12_perhaps_57 (tgt := 64) (by decide) (fun zc57 => ?_) (fun zc57 => ?_)
              · refine zr_iload_n hE eX12_perhaps_64 rfl ?_
                refine zr_callV4 hE eX12_perhaps_65 lX12_211 zs57 rfl rfl (by decide) (Nat.le_of_ble_eq_true rfl) (c_X12_spanOf (vpn (show a < 10 by omega) (by decide)) (vpn (show b < 10 by omega) (by decide)) (by rw [nI_clamp (by omega)]; exact hM.2.2 _ (by omega)) (by rw [nI_clamp (by omega)]; exact hM.2.2 _ (by omega)) ?_)
                refine zr_iconst hE eX12_perhaps_68 (v := 1) (by decide) ?_
                simp only [nI_clamp (show a < 2 ^ 31 by omega), nI_clamp (show b < 2 ^ 31 by omega)]
                refine zr_icmp_ne hE eX12_perhaps_69 (tgt := 76) (by decide) (fun zc69 => ?_) (fun zc69 => ?_)
                · refine zr_iconst hE eX12_perhaps_76 (v := 0) (by decide) ?_
                  refine zr_iadd hE eX12_perhaps_77 ?_
                  refine zr_istore_n hE eX12_perhaps_78 (by decide) rfl ?_
                  refine zr_iincN hE eX12_perhaps_79 rfl (by decide) rfl ?_
                  refine zr_goto hE eX12_perhaps_82 (tgt := 19) (by decide) ?_
                  exact ih2 (b + 1) (by omega) (by omega) _ (by
                    rw [hs2, sumN]
                    have q : ¬ a = b := fun e => zc35 (by rw [e])
                    have qa : (if a = kn then (0 : Int32) else e) = e := if_neg (fun x => zc46 (by rw [x]))
                    have qb : (if b = kn then (0 : Int32) else e) = e := if_neg (fun x => zc57 (by rw [x]))
                    simp only [q, qa, qb, zc69, decide_false, decide_true, Bool.not_false, Bool.true_and, one, Int32.add_zero, Int32.add_assoc]
                    try rfl)
                · refine zr_iconst hE eX12_perhaps_72 (v := 1) (by decide) ?_
                  refine zr_goto hE eX12_perhaps_73 (tgt := 77) (by decide) ?_
                  refine zr_iadd hE eX12_perhaps_77 ?_
                  refine zr_istore_n hE eX12_perhaps_78 (by decide) rfl ?_
                  refine zr_iincN hE eX12_perhaps_79 rfl (by decide) rfl ?_
                  refine zr_goto hE eX12_perhaps_82 (tgt := 19) (by decide) ?_
                  exact ih2 (b + 1) (by omega) (by omega) _ (by
                    rw [hs2, sumN]
                    have q : ¬ a = b := fun e => zc35 (by rw [e])
                    have qa : (if a = kn then (0 : Int32) else e) = e := if_neg (fun x => zc46 (by rw [x]))
                    have qb : (if b = kn then (0 : Int32) else e) = e := if_neg (fun x => zc57 (by rw [x]))
                    simp only [q, qa, qb, zc69, decide_false, decide_true, Bool.not_false, Bool.true_and, one, Int32.add_zero, Int32.add_assoc]
                    try rfl)
              · refine zr_iconst hE eX12_perhaps_60 (v := 0) (by decide) ?_
                refine zr_goto hE eX12_perhaps_61 (tgt := 65) (by decide) ?_
                refine zr_callV4 hE eX12_perhaps_65 lX12_211 zs57 rfl rfl (by decide) (Nat.le_of_ble_eq_true rfl) (c_X12_spanOf (vpn (show a < 10 by omega) (by decide)) (vpn (show b < 10 by omega) (by decide)) (by rw [nI_clamp (by omega)]; exact hM.2.2 _ (by omega)) (by rw [nI_clamp (by omega)]; exact hM.2.2 _ (by omega)) ?_)
                refine zr_iconst hE eX12_perhaps_68 (v := 1) (by decide) ?_
                simp only [nI_clamp (show a < 2 ^ 31 by omega), nI_clamp (show b < 2 ^ 31 by omega)]
                refine zr_icmp_ne hE eX12_perhaps_69 (tgt := 76) (by decide) (fun zc69 => ?_) (fun zc69 => ?_)
                · refine zr_iconst hE eX12_perhaps_76 (v := 0) (by decide) ?_
                  refine zr_iadd hE eX12_perhaps_77 ?_
                  refine zr_istore_n hE eX12_perhaps_78 (by decide) rfl ?_
                  refine zr_iincN hE eX12_perhaps_79 rfl (by decide) rfl ?_
                  refine zr_goto hE eX12_perhaps_82 (tgt := 19) (by decide) ?_
                  exact ih2 (b + 1) (by omega) (by omega) _ (by
                    rw [hs2, sumN]
                    have q : ¬ a = b := fun e => zc35 (by rw [e])
                    have qa : (if a = kn then (0 : Int32) else e) = e := if_neg (fun x => zc46 (by rw [x]))
                    have qb : (if b = kn then (0 : Int32) else e) = 0 := if_pos ((nI_eq (by omega) (by omega)).mp zc57)
                    simp only [q, qa, qb, zc69, decide_false, decide_true, Bool.not_false, Bool.true_and, one, Int32.add_zero, Int32.add_assoc]
                    try rfl)
                · refine zr_iconst hE eX12_perhaps_72 (v := 1) (by decide) ?_
                  refine zr_goto hE eX12_perhaps_73 (tgt := 77) (by decide) ?_
                  refine zr_iadd hE eX12_perhaps_77 ?_
                  refine zr_istore_n hE eX12_perhaps_78 (by decide) rfl ?_
                  refine zr_iincN hE eX12_perhaps_79 rfl (by decide) rfl ?_
                  refine zr_goto hE eX12_perhaps_82 (tgt := 19) (by decide) ?_
                  exact ih2 (b + 1) (by omega) (by omega) _ (by
                    rw [hs2, sumN]
                    have q : ¬ a = b := fun e => zc35 (by rw [e])
                    have qa : (if a = kn then (0 : Int32) else e) = e := if_neg (fun x => zc46 (by rw [x]))
                    have qb : (if b = kn then (0 : Int32) else e) = 0 := if_pos ((nI_eq (by omega) (by omega)).mp zc57)
                    simp only [q, qa, qb, zc69, decide_false, decide_true, Bool.not_false, Bool.true_and, one, Int32.add_zero, Int32.add_assoc]
                    try rfl)
            · refine zr_iconst hE eX12_perhaps_49 (v := 0) (by decide) ?_
              refine zr_goto hE eX12_perhaps_50 (tgt := 54) (by decide) ?_
              refine zr_iload hE eX12_perhaps_54 rfl ?_
              refine zr_iload_n hE eX12_perhaps_56 rfl ?_
              refine zr_icmp_ne hE eX12_perhaps_57 (tgt := 64) (by decide) (fun zc57 => ?_) (fun zc57 => ?_)
              · refine zr_iload_n hE eX12_perhaps_64 rfl ?_
                refine zr_callV4 hE eX12_perhaps_65 lX12_211 zs57 rfl rfl (by decide) (Nat.le_of_ble_eq_true rfl) (c_X12_spanOf (vpn (show a < 10 by omega) (by decide)) (vpn (show b < 10 by omega) (by decide)) (by rw [nI_clamp (by omega)]; exact hM.2.2 _ (by omega)) (by rw [nI_clamp (by omega)]; exact hM.2.2 _ (by omega)) ?_)
                refine zr_iconst hE eX12_perhaps_68 (v := 1) (by decide) ?_
                simp only [nI_clamp (show a < 2 ^ 31 by omega), nI_clamp (show b < 2 ^ 31 by omega)]
                refine zr_icmp_ne hE eX12_perhaps_69 (tgt := 76) (by decide) (fun zc69 => ?_) (fun zc69 => ?_)
                · refine zr_iconst hE eX12_perhaps_76 (v := 0) (by decide) ?_
                  refine zr_iadd hE eX12_perhaps_77 ?_
                  refine zr_istore_n hE eX12_perhaps_78 (by decide) rfl ?_
                  refine zr_iincN hE eX12_perhaps_79 rfl (by decide) rfl ?_
                  refine zr_goto hE eX12_perhaps_82 (tgt := 19) (by decide) ?_
                  exact ih2 (b + 1) (by omega) (by omega) _ (by
                    rw [hs2, sumN]
                    have q : ¬ a = b := fun e => zc35 (by rw [e])
                    have qa : (if a = kn then (0 : Int32) else e) = 0 := if_pos ((nI_eq (by omega) (by omega)).mp zc46)
                    have qb : (if b = kn then (0 : Int32) else e) = e := if_neg (fun x => zc57 (by rw [x]))
                    simp only [q, qa, qb, zc69, decide_false, decide_true, Bool.not_false, Bool.true_and, one, Int32.add_zero, Int32.add_assoc]
                    try rfl)
                · refine zr_iconst hE eX12_perhaps_72 (v := 1) (by decide) ?_
                  refine zr_goto hE eX12_perhaps_73 (tgt := 77) (by decide) ?_
                  refine zr_iadd hE eX12_perhaps_77 ?_
                  refine zr_istore_n hE eX12_perhaps_78 (by decide) rfl ?_
                  refine zr_iincN hE eX12_perhaps_79 rfl (by decide) rfl ?_
                  refine zr_goto hE eX12_perhaps_82 (tgt := 19) (by decide) ?_
                  exact ih2 (b + 1) (by omega) (by omega) _ (by
                    rw [hs2, sumN]
                    have q : ¬ a = b := fun e => zc35 (by rw [e])
                    have qa : (if a = kn then (0 : Int32) else e) = 0 := if_pos ((nI_eq (by omega) (by omega)).mp zc46)
                    have qb : (if b = kn then (0 : Int32) else e) = e := if_neg (fun x => zc57 (by rw [x]))
                    simp only [q, qa, qb, zc69, decide_false, decide_true, Bool.not_false, Bool.true_and, one, Int32.add_zero, Int32.add_assoc]
                    try rfl)
              · refine zr_iconst hE eX12_perhaps_60 (v := 0) (by decide) ?_
                refine zr_goto hE eX12_perhaps_61 (tgt := 65) (by decide) ?_
                refine zr_callV4 hE eX12_perhaps_65 lX12_211 zs57 rfl rfl (by decide) (Nat.le_of_ble_eq_true rfl) (c_X12_spanOf (vpn (show a < 10 by omega) (by decide)) (vpn (show b < 10 by omega) (by decide)) (by rw [nI_clamp (by omega)]; exact hM.2.2 _ (by omega)) (by rw [nI_clamp (by omega)]; exact hM.2.2 _ (by omega)) ?_)
                refine zr_iconst hE eX12_perhaps_68 (v := 1) (by decide) ?_
                simp only [nI_clamp (show a < 2 ^ 31 by omega), nI_clamp (show b < 2 ^ 31 by omega)]
                refine zr_icmp_ne hE eX12_perhaps_69 (tgt := 76) (by decide) (fun zc69 => ?_) (fun zc69 => ?_)
                · refine zr_iconst hE eX12_perhaps_76 (v := 0) (by decide) ?_
                  refine zr_iadd hE eX12_perhaps_77 ?_
                  refine zr_istore_n hE eX12_perhaps_78 (by decide) rfl ?_
                  refine zr_iincN hE eX12_perhaps_79 rfl (by decide) rfl ?_
                  refine zr_goto hE eX12_perhaps_82 (tgt := 19) (by decide) ?_
                  exact ih2 (b + 1) (by omega) (by omega) _ (by
                    rw [hs2, sumN]
                    have q : ¬ a = b := fun e => zc35 (by rw [e])
                    have qa : (if a = kn then (0 : Int32) else e) = 0 := if_pos ((nI_eq (by omega) (by omega)).mp zc46)
                    have qb : (if b = kn then (0 : Int32) else e) = 0 := if_pos ((nI_eq (by omega) (by omega)).mp zc57)
                    simp only [q, qa, qb, zc69, decide_false, decide_true, Bool.not_false, Bool.true_and, one, Int32.add_zero, Int32.add_assoc]
                    try rfl)
                · refine zr_iconst hE eX12_perhaps_72 (v := 1) (by decide) ?_
                  refine zr_goto hE eX12_perhaps_73 (tgt := 77) (by decide) ?_
                  refine zr_iadd hE eX12_perhaps_77 ?_
                  refine zr_istore_n hE eX12_perhaps_78 (by decide) rfl ?_
                  refine zr_iincN hE eX12_perhaps_79 rfl (by decide) rfl ?_
                  refine zr_goto hE eX12_perhaps_82 (tgt := 19) (by decide) ?_
                  exact ih2 (b + 1) (by omega) (by omega) _ (by
                    rw [hs2, sumN]
                    have q : ¬ a = b := fun e => zc35 (by rw [e])
                    have qa : (if a = kn then (0 : Int32) else e) = 0 := if_pos ((nI_eq (by omega) (by omega)).mp zc46)
                    have qb : (if b = kn then (0 : Int32) else e) = 0 := if_pos ((nI_eq (by omega) (by omega)).mp zc57)
                    simp only [q, qa, qb, zc69, decide_false, decide_true, Bool.not_false, Bool.true_and, one, Int32.add_zero, Int32.add_assoc]
                    try rfl)
      refine zr_iload hE eX12_perhaps_5 rfl ?_
      refine zr_aload_n hE eX12_perhaps_7 rfl ?_
      refine zr_getR hE eX12_perhaps_8 fX12_9 zs57 rfl ?_
      refine zr_iconst hE eX12_perhaps_11 (v := 0) (by decide) ?_
      refine zr_ialdv hE eX12_perhaps_12 zs58 (by unfold vp_in; decide) hM.2.1 ?_
      refine zr_kicmp_ge hE eX12_perhaps_13 (tgt := 91) (by decide) (fun zc13 zd13 => absurd ((nI_ltI (by omega) (by omega)).mpr ha0) zc13) (fun zc13 zd13 => ?_)
      refine zr_iconst hE eX12_perhaps_16 (v := 0) (by decide) ?_
      refine zr_istore hE eX12_perhaps_17 (by decide) rfl ?_
      exact loop2 c 0 (Nat.zero_le _) rfl s (by rw [hs, sumN, Int32.add_zero])
  refine zr_iconst hE eX12_perhaps_0 (v := 0) (by decide) ?_
  refine zr_istore_n hE eX12_perhaps_1 (by decide) rfl ?_
  refine zr_iconst hE eX12_perhaps_2 (v := 0) (by decide) ?_
  refine zr_istore hE eX12_perhaps_3 (by decide) rfl ?_
  exact loop c 0 (Nat.zero_le _) rfl 0 rfl
def nx2 (f : Nat → Int32) (c : Nat) : Nat → Nat → Int32 → Int32 → Int32 × Int32
  | 0, _, b, s => (b, s)
  | k + 1, i, b, s => if 0 ≤ b ∧ s ≤ f i then nx2 f c k (i + 1) b s else nx2 f c k (i + 1) (nI i) (f i)
set_option maxHeartbeats 4000000 in
theorem nx2_lp {G : zG} {w : ww} {Q : Option Value → ww → Prop} {e k0 : Int32} {c : Nat} {r : Int32 × Int32} (hR : zR RX12 cX12_next 7 6 (some .int) Q G) (hM : Mow w c) (hQ2 : Q (some (.int (if k0 = 0 then r.1 else r.2))) w) :
    ∀ (k i : Nat) (b s : Int32), i ≤ c → c - i = k → nx2 (fun i => fPp (mB w) (w 58 1) e i c) c k i b s = r → G 34 [some (.ref 57), some (.int e), some (.int k0), some (.int b), some (.int s), some (.int (nI i)), none] [] w := by
  have hE := hR.1
  have hc9 := hM.1
  intro k
  induction k with
  | zero =>
    intro i b s h1 h2 hr
    have hic : i = c := by omega
    subst hic
    refine zr_iload hE eX12_next_34 rfl ?_
    refine zr_aload_n hE eX12_next_36 rfl ?_
    refine zr_getR hE eX12_next_37 fX12_9 zs57 rfl ?_
    refine zr_iconst hE eX12_next_40 (v := 0) (by decide) ?_
    refine zr_ialdv hE eX12_next_41 zs58 (by unfold vp_in; decide) hM.2.1 ?_
    refine zr_kicmp_ge hE eX12_next_42 (tgt := 81) (by decide) (fun zc42 zd42 => ?_) (fun zc42 zd42 => absurd zc42 (by rw [nI_ltI (by omega) (by omega)]; omega))
    refine zr_iload_n hE eX12_next_81 rfl ?_
    refine zr_if_ne hE eX12_next_82 (tgt := 89) (by decide) (fun zc82 => ?_) (fun zc82 => ?_)
    · refine zr_iload hE eX12_next_89 rfl ?_
      refine hR.2.1 _ _ _ _ _ _ eX12_next_91 rfl rfl ?_
      rw [if_neg zc82, ← hr] at hQ2
      exact hQ2
    · refine zr_iload_n hE eX12_next_85 rfl ?_
      refine zr_goto hE eX12_next_86 (tgt := 91) (by decide) ?_
      refine hR.2.1 _ _ _ _ _ _ eX12_next_91 rfl rfl ?_
      rw [if_pos zc82, ← hr] at hQ2
      exact hQ2
  | succ k ih =>
    intro i b s h1 h2 hr
    have xi0 : i < c := by omega
    refine zr_iload hE eX12_next_34 rfl ?_
    refine zr_aload_n hE eX12_next_36 rfl ?_
    refine zr_getR hE eX12_next_37 fX12_9 zs57 rfl ?_
    refine zr_iconst hE eX12_next_40 (v := 0) (by decide) ?_
    refine zr_ialdv hE eX12_next_41 zs58 (by unfold vp_in; decide) hM.2.1 ?_
    refine zr_kicmp_ge hE eX12_next_42 (tgt := 81) (by decide) (fun zc42 zd42 => absurd ((nI_ltI (by omega) (by omega)).mpr xi0) zc42) (fun zc42 zd42 => ?_)
    refine zr_aload_n hE eX12_next_45 rfl ?_
    refine zr_iload_n hE eX12_next_46 rfl ?_
    refine zr_iload hE eX12_next_47 rfl ?_
    refine zr_callV2 hE eX12_next_49 lX12_215 zs57 rfl rfl (by decide) (Nat.le_of_ble_eq_true rfl) (c_X12_perhaps (kn := i) (c := c) (by omega) hM ?_)
    refine zr_istore hE eX12_next_52 (by decide) rfl ?_
    refine zr_iload_n hE eX12_next_54 rfl ?_
    refine zr_kif_lt hE eX12_next_55 (tgt := 68) (by decide) (fun zc55 zd55 => ?_) (fun zc55 zd55 => ?_)
    · refine zr_iload hE eX12_next_68 rfl ?_
      refine zr_istore_n hE eX12_next_70 (by decide) rfl ?_
      refine zr_iload hE eX12_next_71 rfl ?_
      refine zr_istore hE eX12_next_73 (by decide) rfl ?_
      refine zr_iincN hE eX12_next_75 rfl (by decide) rfl ?_
      refine zr_goto hE eX12_next_78 (tgt := 34) (by decide) ?_
      refine zr_mask hE [true, true, true, true, true, true, false] ?_
      exact ih (i + 1) _ _ (by omega) (by omega) (by rw [← hr, nx2, if_neg (fun q => zc55 q.1)])
    · refine zr_iload hE eX12_next_58 rfl ?_
      refine zr_iload hE eX12_next_60 rfl ?_
      refine zr_kicmp_lt hE eX12_next_62 (tgt := 68) (by decide) (fun zc62 zd62 => ?_) (fun zc62 zd62 => ?_)
      · refine zr_iload hE eX12_next_68 rfl ?_
        refine zr_istore_n hE eX12_next_70 (by decide) rfl ?_
        refine zr_iload hE eX12_next_71 rfl ?_
        refine zr_istore hE eX12_next_73 (by decide) rfl ?_
        refine zr_iincN hE eX12_next_75 rfl (by decide) rfl ?_
        refine zr_goto hE eX12_next_78 (tgt := 34) (by decide) ?_
        refine zr_mask hE [true, true, true, true, true, true, false] ?_
        exact ih (i + 1) _ _ (by omega) (by omega) (by rw [← hr, nx2, if_neg (fun q => zc62 q.2)])
      · refine zr_goto hE eX12_next_65 (tgt := 75) (by decide) ?_
        refine zr_iincN hE eX12_next_75 rfl (by decide) rfl ?_
        refine zr_goto hE eX12_next_78 (tgt := 34) (by decide) ?_
        refine zr_mask hE [true, true, true, true, true, true, false] ?_
        exact ih (i + 1) _ _ (by omega) (by omega) (by rw [← hr, nx2, if_pos ⟨zc55, zc62⟩])
def nxM (B : zBv) (v e : Int32) (c : Nat) : Int32 × Int32 := nx2 (fun i => fPp B v e i c) c c 0 (-4) (-4)
set_option maxHeartbeats 4000000 in
theorem c_X12_next {c : Nat} {e k : Int32} {w : ww} {Q : Option Value → ww → Prop} (hM : Mow w c) (hQ1 : ¬ (fIs e 0 9 = true ∧ fIs k 0 1 = true) → Q (some (.int (-1))) w) (hQ2 : fIs e 0 9 = true ∧ fIs k 0 1 = true → Q (some (.int (if k = 0 then (nxM (mB w) (w 58 1) e c).1 else (nxM (mB w) (w 58 1) e c).2))) w) : Ct mX12_next 6 [.ref 57, .int e, .int k] w Q := by
  refine Ct.of (by decide) (Nat.le_of_ble_eq_true rfl) (fun _ => Nat.le_of_ble_eq_true rfl) (fun G hR => ?_)
  have hE := hR.1
  refine zr_iload_n hE eX12_next_0 rfl ?_
  refine zr_i2l hE eX12_next_1 ?_
  refine zr_lconst hE eX12_next_2 (v := 0) (by decide) ?_
  refine zr_ldc2 hE eX12_next_3 hX12_160 ?_
  refine zr_callS3 hE eX12_next_6 lX12_55 (by decide) (Nat.le_of_ble_eq_true rfl) (c_X12_isIn32 0 9 (by decide) (by decide) ?_)
  refine zr_beq hE eX12_next_9 (tgt := 22) (by decide) (fun zc9 => ?_) (fun zc9 => ?_)
  · refine zr_iconst hE eX12_next_22 (v := -1) (by decide) ?_
    refine hR.2.1 _ _ _ _ _ _ eX12_next_23 rfl rfl ?_
    exact hQ1 (fun q => by rw [zc9] at q; cases q.1)
  · refine zr_iload_n hE eX12_next_12 rfl ?_
    refine zr_i2l hE eX12_next_13 ?_
    refine zr_lconst hE eX12_next_14 (v := 0) (by decide) ?_
    refine zr_lconst hE eX12_next_15 (v := 1) (by decide) ?_
    refine zr_callS3 hE eX12_next_16 lX12_55 (by decide) (Nat.le_of_ble_eq_true rfl) (c_X12_isIn32 0 1 (by decide) (by decide) ?_)
    refine zr_bne hE eX12_next_19 (tgt := 24) (by decide) (fun zc19 => ?_) (fun zc19 => ?_)
    · refine zr_bipush hE eX12_next_24 (v := -4) (by decide) ?_
      refine zr_istore_n hE eX12_next_26 (by decide) rfl ?_
      refine zr_bipush hE eX12_next_27 (v := -4) (by decide) ?_
      refine zr_istore hE eX12_next_29 (by decide) rfl ?_
      refine zr_iconst hE eX12_next_31 (v := 0) (by decide) ?_
      refine zr_istore hE eX12_next_32 (by decide) rfl ?_
      exact nx2_lp hR hM (hQ2 ⟨zc9, zc19⟩) c 0 (-4) (-4) (Nat.zero_le _) rfl rfl
    · refine zr_iconst hE eX12_next_22 (v := -1) (by decide) ?_
      refine hR.2.1 _ _ _ _ _ _ eX12_next_23 rfl rfl ?_
      exact hQ1 (fun q => by rw [zc19] at q; cases q.2)

