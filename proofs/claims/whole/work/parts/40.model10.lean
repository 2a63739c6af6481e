/-! The reference: plain public methods. -/
theorem c1_toInt : ∀ c, c < 10 → (nI c - 1).toInt = (c : Int) - 1 ∧ (nI c).toInt = (c : Int) := by decide +kernel
theorem isBc {b : Int32} {c : Nat} (hc : c ≤ 9) : fIs b 0 (nI c - 1) = true ↔ 0 ≤ b ∧ b < nI c := by
  obtain ⟨h1, h2⟩ := c1_toInt c (by omega)
  simp only [fIs, Bool.and_eq_true, decide_eq_true_eq, Int32.le_iff_toInt_le, Int32.lt_iff_toInt_lt, h1, h2]
  omega
theorem isB_ok {w : ww} {c : Nat} (hM : Mow w c) {b : Int32} (h : fIs b 0 (w 58 0 - 1) = true) : vp_in b 10 ∧ vp_in (mB w 0 b.toNatClampNeg) 8 ∧ (0 ≤ b ∧ b < nI c) ∧ b.toNatClampNeg < c := by
  rw [hM.2.1, isBc hM.1] at h
  have hc := hM.1
  obtain ⟨a, ha, rfl⟩ := nI_of (x := b) (fun q => absurd (Int32.lt_of_le_of_lt h.1 q) (by decide))
  have hac : a < c := (nI_ltI ha (by omega)).mp h.2
  rw [nI_clamp ha]
  exact ⟨vpn (by omega) (by decide), hM.2.2 a hac, h, hac⟩
theorem isB_no {w : ww} {c : Nat} (hM : Mow w c) {b : Int32} (h : fIs b 0 (w 58 0 - 1) = false) : ¬ (0 ≤ b ∧ b < nI c) := fun q => by
  rw [hM.2.1] at h
  rw [(isBc hM.1).mpr q] at h; cases h
set_option maxHeartbeats 4000000 in
theorem c_X12_warm {v : Int32} {w : ww} {Q : Option Value → ww → Prop} (hQ1 : fIs v 0 9 = false → Q (some (.int (-1))) w) (hQ2 : fIs v 0 9 = true → Q (some (.int (w 58 1))) (wu w 58 1 v)) : Ct mX12_warm 2 [.ref 57, .int v] w Q := by
  refine Ct.of (by decide) (Nat.le_of_ble_eq_true rfl) (fun _ => Nat.le_of_ble_eq_true rfl) (fun G hR => ?_)
  have hE := hR.1
  refine zr_iload_n hE eX12_warm_0 rfl ?_
  refine zr_i2l hE eX12_warm_1 ?_
  refine zr_lconst hE eX12_warm_2 (v := 0) (by decide) ?_
  refine zr_ldc2 hE eX12_warm_3 hX12_160 ?_
  refine zr_callS3 hE eX12_warm_6 lX12_55 (by decide) (Nat.le_of_ble_eq_true rfl) (c_X12_isIn32 0 9 (by decide) (by decide) ?_)
  refine zr_bne hE eX12_warm_9 (tgt := 14) (by decide) (fun zc9 => ?_) (fun zc9 => ?_)
  · refine zr_aload_n hE eX12_warm_14 rfl ?_
    refine zr_getR hE eX12_warm_15 fX12_9 zs57 rfl ?_
    refine zr_iconst hE eX12_warm_18 (v := 1) (by decide) ?_
    refine zr_iald hE eX12_warm_19 zs58 (by unfold vp_in; decide) ?_
    refine zr_istore_n hE eX12_warm_20 (by decide) rfl ?_
    refine zr_aload_n hE eX12_warm_21 rfl ?_
    refine zr_getR hE eX12_warm_22 fX12_9 zs57 rfl ?_
    refine zr_iconst hE eX12_warm_25 (v := 1) (by decide) ?_
    refine zr_iload_n hE eX12_warm_26 rfl ?_
    refine zr_iast hE eX12_warm_27 zs58 (by unfold vp_in; decide) ?_
    refine zr_iload_n hE eX12_warm_28 rfl ?_
    refine hR.2.1 _ _ _ _ _ _ eX12_warm_29 rfl rfl ?_
    first | exact hQ1 (by assumption) | exact hQ2 (by assumption)
  · refine zr_iconst hE eX12_warm_12 (v := -1) (by decide) ?_
    refine hR.2.1 _ _ _ _ _ _ eX12_warm_13 rfl rfl ?_
    first | exact hQ1 (by assumption) | exact hQ2 (by assumption)

set_option maxHeartbeats 4000000 in
theorem c_X12_turn {c : Nat} {b : Int32} {w : ww} {Q : Option Value → ww → Prop} (hM : Mow w c) (hQ1 : ¬ (0 ≤ b ∧ b < nI c) → Q (some (.int (-1))) w) (hQ2 : 0 ≤ b ∧ b < nI c → Q (some (.int (1 - mB w 2 b.toNatClampNeg))) (wu w 58 (2 + 5 * b.toNatClampNeg + 2) (1 - mB w 2 b.toNatClampNeg))) : Ct mX12_turn 3 [.ref 57, .int b] w Q := by
  refine Ct.of (by decide) (Nat.le_of_ble_eq_true rfl) (fun _ => Nat.le_of_ble_eq_true rfl) (fun G hR => ?_)
  have hE := hR.1
  refine zr_aload_n hE eX12_turn_0 rfl ?_
  refine zr_iload_n hE eX12_turn_1 rfl ?_
  refine zr_callV1 hE eX12_turn_2 lX12_126 zs57 rfl rfl (by decide) (Nat.le_of_ble_eq_true rfl) (c_X12_isBowl ?_)
  refine zr_bne hE eX12_turn_5 (tgt := 10) (by decide) (fun zc5 => ?_) (fun zc5 => ?_)
  · have xb := isB_ok hM zc5
    refine zr_aload_n hE eX12_turn_10 rfl ?_
    refine zr_iload_n hE eX12_turn_11 rfl ?_
    refine zr_iconst hE eX12_turn_12 (v := 2) (by decide) ?_
    refine zr_iconst hE eX12_turn_13 (v := 1) (by decide) ?_
    refine zr_aload_n hE eX12_turn_14 rfl ?_
    refine zr_iload_n hE eX12_turn_15 rfl ?_
    refine zr_iconst hE eX12_turn_16 (v := 2) (by decide) ?_
    refine zr_callV2 hE eX12_turn_17 lX12_63 zs57 rfl rfl (by decide) (Nat.le_of_ble_eq_true rfl) (c_X12_get 2 xb.1 rfl (by decide) ?_)
    refine zr_isub hE eX12_turn_20 ?_
    refine zr_callV3 hE eX12_turn_21 lX12_122 zs57 rfl rfl (by decide) (Nat.le_of_ble_eq_true rfl) (c_X12_puts 2 xb.1 rfl (by decide) ?_)
    refine zr_aload_n hE eX12_turn_24 rfl ?_
    refine zr_iload_n hE eX12_turn_25 rfl ?_
    refine zr_iconst hE eX12_turn_26 (v := 2) (by decide) ?_
    refine zr_callV2 hE eX12_turn_27 lX12_63 zs57 rfl rfl (by decide) (Nat.le_of_ble_eq_true rfl) (c_X12_get 2 xb.1 rfl (by decide) ?_)
    refine hR.2.1 _ _ _ _ _ _ eX12_turn_30 rfl rfl ?_
    refine zq (hQ2 xb.2.2.1) ?_
    unfold mB; rw [wu_eq]
  · refine zr_iconst hE eX12_turn_8 (v := -1) (by decide) ?_
    refine hR.2.1 _ _ _ _ _ _ eX12_turn_9 rfl rfl ?_
    exact hQ1 (isB_no hM zc5)

set_option maxHeartbeats 4000000 in
theorem c_X12_lies {c : Nat} {a b : Int32} {w : ww} {Q : Option Value → ww → Prop} (hM : Mow w c) (hQ : Q (some (.int (if (0 ≤ a ∧ a < nI c) ∧ (0 ≤ b ∧ b < nI c) ∧ ¬ a = b then bi (fLi (mB w) a.toNatClampNeg b.toNatClampNeg (w 58 1)) else -1))) w) : Ct mX12_lies 7 [.ref 57, .int a, .int b] w Q := by
  refine Ct.of (by decide) (Nat.le_of_ble_eq_true rfl) (fun _ => Nat.le_of_ble_eq_true rfl) (fun G hR => ?_)
  have hE := hR.1
  refine zr_aload_n hE eX12_lies_0 rfl ?_
  refine zr_iload_n hE eX12_lies_1 rfl ?_
  refine zr_callV1 hE eX12_lies_2 lX12_126 zs57 rfl rfl (by decide) (Nat.le_of_ble_eq_true rfl) (c_X12_isBowl ?_)
  refine zr_beq hE eX12_lies_5 (tgt := 21) (by decide) (fun zc5 => ?_) (fun zc5 => ?_)
  · refine zr_iconst hE eX12_lies_21 (v := -1) (by decide) ?_
    refine zr_goto hE eX12_lies_22 (tgt := 39) (by decide) ?_
    refine hR.2.1 _ _ _ _ _ _ eX12_lies_39 rfl rfl ?_
    rw [if_neg (fun q => isB_no hM zc5 q.1)] at hQ
    exact hQ
  · refine zr_aload_n hE eX12_lies_8 rfl ?_
    refine zr_iload_n hE eX12_lies_9 rfl ?_
    refine zr_callV1 hE eX12_lies_10 lX12_126 zs57 rfl rfl (by decide) (Nat.le_of_ble_eq_true rfl) (c_X12_isBowl ?_)
    refine zr_beq hE eX12_lies_13 (tgt := 21) (by decide) (fun zc13 => ?_) (fun zc13 => ?_)
    · refine zr_iconst hE eX12_lies_21 (v := -1) (by decide) ?_
      refine zr_goto hE eX12_lies_22 (tgt := 39) (by decide) ?_
      refine hR.2.1 _ _ _ _ _ _ eX12_lies_39 rfl rfl ?_
      rw [if_neg (fun q => isB_no hM zc13 q.2.1)] at hQ
      exact hQ
    · refine zr_iload_n hE eX12_lies_16 rfl ?_
      refine zr_iload_n hE eX12_lies_17 rfl ?_
      refine zr_icmp_ne hE eX12_lies_18 (tgt := 25) (by decide) (fun zc18 => ?_) (fun zc18 => ?_)
      · have xa := isB_ok hM zc5
        have xb := isB_ok hM zc13
        refine zr_aload_n hE eX12_lies_25 rfl ?_
        refine zr_iload_n hE eX12_lies_26 rfl ?_
        refine zr_iload_n hE eX12_lies_27 rfl ?_
        refine zr_callV2 hE eX12_lies_28 lX12_162 zs57 rfl rfl (by decide) (Nat.le_of_ble_eq_true rfl) (c_X12_liesNow xa.1 xb.1 xa.2.1 xb.2.1 ?_)
        refine zr_beq hE eX12_lies_31 (tgt := 38) (by decide) (fun zc31 => ?_) (fun zc31 => ?_)
        · refine zr_iconst hE eX12_lies_38 (v := 0) (by decide) ?_
          refine hR.2.1 _ _ _ _ _ _ eX12_lies_39 rfl rfl ?_
          rw [if_pos ⟨xa.2.2.1, xb.2.2.1, zc18⟩, zc31] at hQ
          exact hQ
        · refine zr_iconst hE eX12_lies_34 (v := 1) (by decide) ?_
          refine zr_goto hE eX12_lies_35 (tgt := 39) (by decide) ?_
          refine hR.2.1 _ _ _ _ _ _ eX12_lies_39 rfl rfl ?_
          rw [if_pos ⟨xa.2.2.1, xb.2.2.1, zc18⟩, zc31] at hQ
          exact hQ
      · refine zr_iconst hE eX12_lies_21 (v := -1) (by decide) ?_
        refine zr_goto hE eX12_lies_22 (tgt := 39) (by decide) ?_
        refine hR.2.1 _ _ _ _ _ _ eX12_lies_39 rfl rfl ?_
        rw [if_neg (fun q => q.2.2 zc18)] at hQ
        exact hQ

set_option maxHeartbeats 4000000 in
theorem c_X12_spans {c : Nat} {a b e : Int32} {w : ww} {Q : Option Value → ww → Prop} (hM : Mow w c) (hQ : Q (some (.int (if ((0 ≤ a ∧ a < nI c) ∧ (0 ≤ b ∧ b < nI c) ∧ ¬ a = b) ∧ fIs e 0 9 = true then fSp (mB w) a.toNatClampNeg e b.toNatClampNeg e (w 58 1) else -1))) w) : Ct mX12_spans 6 [.ref 57, .int a, .int b, .int e] w Q := by
  refine Ct.of (by decide) (Nat.le_of_ble_eq_true rfl) (fun _ => Nat.le_of_ble_eq_true rfl) (fun G hR => ?_)
  have hE := hR.1
  refine zr_aload_n hE eX12_spans_0 rfl ?_
  refine zr_iload_n hE eX12_spans_1 rfl ?_
  refine zr_callV1 hE eX12_spans_2 lX12_126 zs57 rfl rfl (by decide) (Nat.le_of_ble_eq_true rfl) (c_X12_isBowl ?_)
  refine zr_beq hE eX12_spans_5 (tgt := 33) (by decide) (fun zc5 => ?_) (fun zc5 => ?_)
  · refine zr_iconst hE eX12_spans_33 (v := -1) (by decide) ?_
    refine zr_goto hE eX12_spans_34 (tgt := 45) (by decide) ?_
    refine hR.2.1 _ _ _ _ _ _ eX12_spans_45 rfl rfl ?_
    rw [if_neg (fun q => isB_no hM zc5 q.1.1)] at hQ
    exact hQ
  · refine zr_aload_n hE eX12_spans_8 rfl ?_
    refine zr_iload_n hE eX12_spans_9 rfl ?_
    refine zr_callV1 hE eX12_spans_10 lX12_126 zs57 rfl rfl (by decide) (Nat.le_of_ble_eq_true rfl) (c_X12_isBowl ?_)
    refine zr_beq hE eX12_spans_13 (tgt := 33) (by decide) (fun zc13 => ?_) (fun zc13 => ?_)
    · refine zr_iconst hE eX12_spans_33 (v := -1) (by decide) ?_
      refine zr_goto hE eX12_spans_34 (tgt := 45) (by decide) ?_
      refine hR.2.1 _ _ _ _ _ _ eX12_spans_45 rfl rfl ?_
      rw [if_neg (fun q => isB_no hM zc13 q.1.2.1)] at hQ
      exact hQ
    · refine zr_iload_n hE eX12_spans_16 rfl ?_
      refine zr_iload_n hE eX12_spans_17 rfl ?_
      refine zr_icmp_eq hE eX12_spans_18 (tgt := 33) (by decide) (fun zc18 => ?_) (fun zc18 => ?_)
      · refine zr_iconst hE eX12_spans_33 (v := -1) (by decide) ?_
        refine zr_goto hE eX12_spans_34 (tgt := 45) (by decide) ?_
        refine hR.2.1 _ _ _ _ _ _ eX12_spans_45 rfl rfl ?_
        rw [if_neg (fun q => q.1.2.2 zc18)] at hQ
        exact hQ
      · refine zr_iload_n hE eX12_spans_21 rfl ?_
        refine zr_i2l hE eX12_spans_22 ?_
        refine zr_lconst hE eX12_spans_23 (v := 0) (by decide) ?_
        refine zr_ldc2 hE eX12_spans_24 hX12_160 ?_
        refine zr_callS3 hE eX12_spans_27 lX12_55 (by decide) (Nat.le_of_ble_eq_true rfl) (c_X12_isIn32 0 9 (by decide) (by decide) ?_)
        refine zr_bne hE eX12_spans_30 (tgt := 37) (by decide) (fun zc30 => ?_) (fun zc30 => ?_)
        · refine zr_aload_n hE eX12_spans_37 rfl ?_
          refine zr_iload_n hE eX12_spans_38 rfl ?_
          refine zr_iload_n hE eX12_spans_39 rfl ?_
          refine zr_iload_n hE eX12_spans_40 rfl ?_
          refine zr_iload_n hE eX12_spans_41 rfl ?_
          refine zr_callV4 hE eX12_spans_42 lX12_211 zs57 rfl rfl (by decide) (Nat.le_of_ble_eq_true rfl) (c_X12_spanOf (isB_ok hM zc5).1 (isB_ok hM zc13).1 (isB_ok hM zc5).2.1 (isB_ok hM zc13).2.1 ?_)
          refine hR.2.1 _ _ _ _ _ _ eX12_spans_45 rfl rfl ?_
          rw [if_pos ⟨⟨(isB_ok hM zc5).2.2.1, (isB_ok hM zc13).2.2.1, zc18⟩, zc30⟩] at hQ
          exact hQ
        · refine zr_iconst hE eX12_spans_33 (v := -1) (by decide) ?_
          refine zr_goto hE eX12_spans_34 (tgt := 45) (by decide) ?_
          refine hR.2.1 _ _ _ _ _ _ eX12_spans_45 rfl rfl ?_
          rw [if_neg (fun q => by rw [zc30] at q; cases q.2)] at hQ
          exact hQ

