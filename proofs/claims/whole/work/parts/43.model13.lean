/-! The reference: price, keep. -/
theorem mrK_0 {w : ww} {d : Int32} (h : mrK w d = 0) : fIs d 0 7 = true ∧ w 61 d.toNatClampNeg = 1 := by
  unfold mrK at h
  split at h
  · cases h
  · rename_i q
    split at h
    · cases h
    · split at h
      · rename_i q2; exact ⟨by simpa using q, q2⟩
      · cases h
set_option maxHeartbeats 4000000 in
theorem c_X12_price {d : Int32} {w : ww} {Q : Option Value → ww → Prop} (hk : mrK w d = 0 → vp_in (w 65 d.toNatClampNeg) 8) (hQ : Q (some (.int (if mrK w d = 0 then coK (w 65 d.toNatClampNeg) (w 66 d.toNatClampNeg) else mrK w d))) w) : Ct mX12_price 4 [.ref 57, .int d] w Q := by
  refine Ct.of (by decide) (Nat.le_of_ble_eq_true rfl) (fun _ => Nat.le_of_ble_eq_true rfl) (fun G hR => ?_)
  have hE := hR.1
  refine zr_aload_n hE eX12_price_0 rfl ?_
  refine zr_iload_n hE eX12_price_1 rfl ?_
  refine zr_callV1 hE eX12_price_2 lX12_153 zs57 rfl rfl (by decide) (Nat.le_of_ble_eq_true rfl) (c_X12_wrongKept ?_)
  refine zr_istore_n hE eX12_price_5 (by decide) rfl ?_
  refine zr_iload_n hE eX12_price_6 rfl ?_
  refine zr_if_eq hE eX12_price_7 (tgt := 14) (by decide) (fun zc7 => ?_) (fun zc7 => ?_)
  · refine zr_aload_n hE eX12_price_14 rfl ?_
    refine zr_getR hE eX12_price_15 fX12_31 zs57 rfl ?_
    refine zr_iload_n hE eX12_price_18 rfl ?_
    refine zr_iald hE eX12_price_19 zs65 (fIs_vp (mrK_0 zc7).1) ?_
    refine zr_aload_n hE eX12_price_20 rfl ?_
    refine zr_getR hE eX12_price_21 fX12_34 zs57 rfl ?_
    refine zr_iload_n hE eX12_price_24 rfl ?_
    refine zr_iald hE eX12_price_25 zs66 (fIs_vp (mrK_0 zc7).1) ?_
    refine zr_callS2 hE eX12_price_26 lX12_235 (by decide) (Nat.le_of_ble_eq_true rfl) (c_X12_priceBy (hk zc7) ?_)
    refine hR.2.1 _ _ _ _ _ _ eX12_price_29 rfl rfl ?_
    rw [if_pos zc7] at hQ
    exact hQ
  · refine zr_iload_n hE eX12_price_10 rfl ?_
    refine zr_goto hE eX12_price_11 (tgt := 29) (by decide) ?_
    refine hR.2.1 _ _ _ _ _ _ eX12_price_29 rfl rfl ?_
    rw [if_neg zc7] at hQ
    exact hQ

def mkP (d what k f : Int32) : Prop := fIs d 0 7 = true ∧ fIs what 0 1 = true ∧ (what = 1 → fIs k 0 7 = true ∧ fIs f 0 9 = true)
set_option maxHeartbeats 4000000 in
theorem c_X12_keep {d k q f : Int32} {w : ww} {Q : Option Value → ww → Prop} (hQ1 : ¬ mkP d q k f → Q (some (.int (-1))) w) (hQ2 : mkP d q k f → Q (some (.int 0)) (wu (wu (wu w 61 d.toNatClampNeg q) 65 d.toNatClampNeg k) 66 d.toNatClampNeg f)) : Ct mX12_keep 3 [.ref 57, .int d, .int q, .int k, .int f] w Q := by
  refine Ct.of (by decide) (Nat.le_of_ble_eq_true rfl) (fun _ => Nat.le_of_ble_eq_true rfl) (fun G hR => ?_)
  have hE := hR.1
  refine zr_iload_n hE eX12_keep_0 rfl ?_
  refine zr_callS1 hE eX12_keep_1 lX12_129 (by decide) (Nat.le_of_ble_eq_true rfl) (c_X12_isShelf ?_)
  refine zr_beq hE eX12_keep_4 (tgt := 47) (by decide) (fun zc4 => ?_) (fun zc4 => ?_)
  · refine zr_iconst hE eX12_keep_47 (v := -1) (by decide) ?_
    refine hR.2.1 _ _ _ _ _ _ eX12_keep_48 rfl rfl ?_
    exact hQ1 (fun x => by rw [x.1] at zc4; cases zc4)
  · refine zr_iload_n hE eX12_keep_7 rfl ?_
    refine zr_i2l hE eX12_keep_8 ?_
    refine zr_lconst hE eX12_keep_9 (v := 0) (by decide) ?_
    refine zr_lconst hE eX12_keep_10 (v := 1) (by decide) ?_
    refine zr_callS3 hE eX12_keep_11 lX12_55 (by decide) (Nat.le_of_ble_eq_true rfl) (c_X12_isIn32 0 1 (by decide) (by decide) ?_)
    refine zr_beq hE eX12_keep_14 (tgt := 47) (by decide) (fun zc14 => ?_) (fun zc14 => ?_)
    · refine zr_iconst hE eX12_keep_47 (v := -1) (by decide) ?_
      refine hR.2.1 _ _ _ _ _ _ eX12_keep_48 rfl rfl ?_
      exact hQ1 (fun x => by rw [x.2.1] at zc14; cases zc14)
    · refine zr_iload_n hE eX12_keep_17 rfl ?_
      refine zr_iconst hE eX12_keep_18 (v := 1) (by decide) ?_
      refine zr_icmp_ne hE eX12_keep_19 (tgt := 49) (by decide) (fun zc19 => ?_) (fun zc19 => ?_)
      · refine zr_aload_n hE eX12_keep_49 rfl ?_
        refine zr_getR hE eX12_keep_50 fX12_19 zs57 rfl ?_
        refine zr_iload_n hE eX12_keep_53 rfl ?_
        refine zr_iload_n hE eX12_keep_54 rfl ?_
        refine zr_iast hE eX12_keep_55 zs61 (fIs_vp zc4) ?_
        refine zr_aload_n hE eX12_keep_56 rfl ?_
        refine zr_getR hE eX12_keep_57 fX12_31 zs57 rfl ?_
        refine zr_iload_n hE eX12_keep_60 rfl ?_
        refine zr_iload_n hE eX12_keep_61 rfl ?_
        refine zr_iast hE eX12_keep_62 zs65 (fIs_vp zc4) ?_
        refine zr_aload_n hE eX12_keep_63 rfl ?_
        refine zr_getR hE eX12_keep_64 fX12_34 zs57 rfl ?_
        refine zr_iload_n hE eX12_keep_67 rfl ?_
        refine zr_iload hE eX12_keep_68 rfl ?_
        refine zr_iast hE eX12_keep_70 zs66 (fIs_vp zc4) ?_
        refine zr_iconst hE eX12_keep_71 (v := 0) (by decide) ?_
        refine hR.2.1 _ _ _ _ _ _ eX12_keep_72 rfl rfl ?_
        exact hQ2 ⟨zc4, zc14, fun x => absurd x zc19⟩
      · refine zr_iload_n hE eX12_keep_22 rfl ?_
        refine zr_i2l hE eX12_keep_23 ?_
        refine zr_lconst hE eX12_keep_24 (v := 0) (by decide) ?_
        refine zr_ldc2 hE eX12_keep_25 hX12_53 ?_
        refine zr_callS3 hE eX12_keep_28 lX12_55 (by decide) (Nat.le_of_ble_eq_true rfl) (c_X12_isIn32 0 7 (by decide) (by decide) ?_)
        refine zr_beq hE eX12_keep_31 (tgt := 47) (by decide) (fun zc31 => ?_) (fun zc31 => ?_)
        · refine zr_iconst hE eX12_keep_47 (v := -1) (by decide) ?_
          refine hR.2.1 _ _ _ _ _ _ eX12_keep_48 rfl rfl ?_
          exact hQ1 (fun x => by rw [(x.2.2 zc19).1] at zc31; cases zc31)
        · refine zr_iload hE eX12_keep_34 rfl ?_
          refine zr_i2l hE eX12_keep_36 ?_
          refine zr_lconst hE eX12_keep_37 (v := 0) (by decide) ?_
          refine zr_ldc2 hE eX12_keep_38 hX12_160 ?_
          refine zr_callS3 hE eX12_keep_41 lX12_55 (by decide) (Nat.le_of_ble_eq_true rfl) (c_X12_isIn32 0 9 (by decide) (by decide) ?_)
          refine zr_bne hE eX12_keep_44 (tgt := 49) (by decide) (fun zc44 => ?_) (fun zc44 => ?_)
          · refine zr_aload_n hE eX12_keep_49 rfl ?_
            refine zr_getR hE eX12_keep_50 fX12_19 zs57 rfl ?_
            refine zr_iload_n hE eX12_keep_53 rfl ?_
            refine zr_iload_n hE eX12_keep_54 rfl ?_
            refine zr_iast hE eX12_keep_55 zs61 (fIs_vp zc4) ?_
            refine zr_aload_n hE eX12_keep_56 rfl ?_
            refine zr_getR hE eX12_keep_57 fX12_31 zs57 rfl ?_
            refine zr_iload_n hE eX12_keep_60 rfl ?_
            refine zr_iload_n hE eX12_keep_61 rfl ?_
            refine zr_iast hE eX12_keep_62 zs65 (fIs_vp zc4) ?_
            refine zr_aload_n hE eX12_keep_63 rfl ?_
            refine zr_getR hE eX12_keep_64 fX12_34 zs57 rfl ?_
            refine zr_iload_n hE eX12_keep_67 rfl ?_
            refine zr_iload hE eX12_keep_68 rfl ?_
            refine zr_iast hE eX12_keep_70 zs66 (fIs_vp zc4) ?_
            refine zr_iconst hE eX12_keep_71 (v := 0) (by decide) ?_
            refine hR.2.1 _ _ _ _ _ _ eX12_keep_72 rfl rfl ?_
            exact hQ2 ⟨zc4, zc14, fun _ => ⟨zc31, zc44⟩⟩
          · refine zr_iconst hE eX12_keep_47 (v := -1) (by decide) ?_
            refine hR.2.1 _ _ _ _ _ _ eX12_keep_48 rfl rfl ?_
            exact hQ1 (fun x => by rw [(x.2.2 zc19).2] at zc44; cases zc44)

