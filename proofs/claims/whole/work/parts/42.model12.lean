/-! The reference: bowl. -/
def mbR (B : zBv) (v b what : Int32) : Int32 :=
  if what = 0 then B 0 b.toNatClampNeg else if what = 1 then B 1 b.toNatClampNeg else if what = 2 then B 2 b.toNatClampNeg else if what = 3 then B 3 b.toNatClampNeg else if what = 4 then B 4 b.toNatClampNeg else
  if what = 5 then fOut B b.toNatClampNeg (B 3 b.toNatClampNeg) else if what = 6 then fIn B b.toNatClampNeg (B 3 b.toNatClampNeg) v else if what = 7 then fRi B b.toNatClampNeg else -1
set_option maxHeartbeats 4000000 in
theorem c_X12_bowl {c : Nat} {b k : Int32} {w : ww} {Q : Option Value → ww → Prop} (hM : Mow w c) (hQ1 : ¬ (0 ≤ b ∧ b < nI c) → Q (some (.int (-1))) w) (hQ2 : 0 ≤ b ∧ b < nI c → Q (some (.int (mbR (mB w) (w 58 1) b k))) w) : Ct mX12_bowl 5 [.ref 57, .int b, .int k] w Q := by
  refine Ct.of (by decide) (Nat.le_of_ble_eq_true rfl) (fun _ => Nat.le_of_ble_eq_true rfl) (fun G hR => ?_)
  have hE := hR.1
  refine zr_aload_n hE eX12_bowl_0 rfl ?_
  refine zr_iload_n hE eX12_bowl_1 rfl ?_
  refine zr_callV1 hE eX12_bowl_2 lX12_126 zs57 rfl rfl (by decide) (Nat.le_of_ble_eq_true rfl) (c_X12_isBowl ?_)
  refine zr_bne hE eX12_bowl_5 (tgt := 10) (by decide) (fun zc5 => ?_) (fun zc5 => ?_)
  · have xb := isB_ok hM zc5
    refine zr_iload_n hE eX12_bowl_10 rfl ?_
    refine zr_tswK hE eX12_bowl_11 (0) (45) 56 (0) (by decide) (by decide) (by decide) (by decide) (by decide) (fun zk11_0 => ?_) (fun zk11_0 => ?_)
    · refine zr_aload_n hE eX12_bowl_56 rfl ?_
      refine zr_iload_n hE eX12_bowl_57 rfl ?_
      refine zr_iload_n hE eX12_bowl_58 rfl ?_
      refine zr_callV2 hE eX12_bowl_59 lX12_63 zs57 rfl rfl (by decide) (Nat.le_of_ble_eq_true rfl) (c_X12_get 0 xb.1 (zk11_0.trans rfl) (by decide) ?_)
      refine hR.2.1 _ _ _ _ _ _ eX12_bowl_62 rfl rfl ?_
      exact zq (hQ2 xb.2.2.1) (by unfold mbR; rw [if_pos zk11_0])
    refine zr_tswK hE eX12_bowl_11 (1) (45) 56 (1) (by decide) (by decide) (by decide) (by decide) (by decide) (fun zk11_1 => ?_) (fun zk11_1 => ?_)
    · refine zr_aload_n hE eX12_bowl_56 rfl ?_
      refine zr_iload_n hE eX12_bowl_57 rfl ?_
      refine zr_iload_n hE eX12_bowl_58 rfl ?_
      refine zr_callV2 hE eX12_bowl_59 lX12_63 zs57 rfl rfl (by decide) (Nat.le_of_ble_eq_true rfl) (c_X12_get 1 xb.1 (zk11_1.trans rfl) (by decide) ?_)
      refine hR.2.1 _ _ _ _ _ _ eX12_bowl_62 rfl rfl ?_
      exact zq (hQ2 xb.2.2.1) (by unfold mbR; rw [if_neg zk11_0, if_pos zk11_1])
    refine zr_tswK hE eX12_bowl_11 (2) (45) 56 (2) (by decide) (by decide) (by decide) (by decide) (by decide) (fun zk11_2 => ?_) (fun zk11_2 => ?_)
    · refine zr_aload_n hE eX12_bowl_56 rfl ?_
      refine zr_iload_n hE eX12_bowl_57 rfl ?_
      refine zr_iload_n hE eX12_bowl_58 rfl ?_
      refine zr_callV2 hE eX12_bowl_59 lX12_63 zs57 rfl rfl (by decide) (Nat.le_of_ble_eq_true rfl) (c_X12_get 2 xb.1 (zk11_2.trans rfl) (by decide) ?_)
      refine hR.2.1 _ _ _ _ _ _ eX12_bowl_62 rfl rfl ?_
      exact zq (hQ2 xb.2.2.1) (by unfold mbR; rw [if_neg zk11_0, if_neg zk11_1, if_pos zk11_2])
    refine zr_tswK hE eX12_bowl_11 (3) (45) 56 (3) (by decide) (by decide) (by decide) (by decide) (by decide) (fun zk11_3 => ?_) (fun zk11_3 => ?_)
    · refine zr_aload_n hE eX12_bowl_56 rfl ?_
      refine zr_iload_n hE eX12_bowl_57 rfl ?_
      refine zr_iload_n hE eX12_bowl_58 rfl ?_
      refine zr_callV2 hE eX12_bowl_59 lX12_63 zs57 rfl rfl (by decide) (Nat.le_of_ble_eq_true rfl) (c_X12_get 3 xb.1 (zk11_3.trans rfl) (by decide) ?_)
      refine hR.2.1 _ _ _ _ _ _ eX12_bowl_62 rfl rfl ?_
      exact zq (hQ2 xb.2.2.1) (by unfold mbR; rw [if_neg zk11_0, if_neg zk11_1, if_neg zk11_2, if_pos zk11_3])
    refine zr_tswK hE eX12_bowl_11 (4) (45) 56 (4) (by decide) (by decide) (by decide) (by decide) (by decide) (fun zk11_4 => ?_) (fun zk11_4 => ?_)
    · refine zr_aload_n hE eX12_bowl_56 rfl ?_
      refine zr_iload_n hE eX12_bowl_57 rfl ?_
      refine zr_iload_n hE eX12_bowl_58 rfl ?_
      refine zr_callV2 hE eX12_bowl_59 lX12_63 zs57 rfl rfl (by decide) (Nat.le_of_ble_eq_true rfl) (c_X12_get 4 xb.1 (zk11_4.trans rfl) (by decide) ?_)
      refine hR.2.1 _ _ _ _ _ _ eX12_bowl_62 rfl rfl ?_
      exact zq (hQ2 xb.2.2.1) (by unfold mbR; rw [if_neg zk11_0, if_neg zk11_1, if_neg zk11_2, if_neg zk11_3, if_pos zk11_4])
    refine zr_tswK hE eX12_bowl_11 (5) (52) 63 (5) (by decide) (by decide) (by decide) (by decide) (by decide) (fun zk11_5 => ?_) (fun zk11_5 => ?_)
    · refine zr_aload_n hE eX12_bowl_63 rfl ?_
      refine zr_iload_n hE eX12_bowl_64 rfl ?_
      refine zr_callV1 hE eX12_bowl_65 lX12_82 zs57 rfl rfl (by decide) (Nat.le_of_ble_eq_true rfl) (c_X12_outside xb.1 xb.2.1 ?_)
      refine hR.2.1 _ _ _ _ _ _ eX12_bowl_68 rfl rfl ?_
      exact zq (hQ2 xb.2.2.1) (by unfold mbR; rw [if_neg zk11_0, if_neg zk11_1, if_neg zk11_2, if_neg zk11_3, if_neg zk11_4, if_pos zk11_5])
    refine zr_tswK hE eX12_bowl_11 (6) (58) 69 (6) (by decide) (by decide) (by decide) (by decide) (by decide) (fun zk11_6 => ?_) (fun zk11_6 => ?_)
    · refine zr_aload_n hE eX12_bowl_69 rfl ?_
      refine zr_iload_n hE eX12_bowl_70 rfl ?_
      refine zr_callV1 hE eX12_bowl_71 lX12_145 zs57 rfl rfl (by decide) (Nat.le_of_ble_eq_true rfl) (c_X12_inside xb.1 xb.2.1 ?_)
      refine hR.2.1 _ _ _ _ _ _ eX12_bowl_74 rfl rfl ?_
      exact zq (hQ2 xb.2.2.1) (by unfold mbR; rw [if_neg zk11_0, if_neg zk11_1, if_neg zk11_2, if_neg zk11_3, if_neg zk11_4, if_neg zk11_5, if_pos zk11_6])
    refine zr_tswK hE eX12_bowl_11 (7) (64) 75 (7) (by decide) (by decide) (by decide) (by decide) (by decide) (fun zk11_7 => ?_) (fun zk11_7 => ?_)
    · refine zr_aload_n hE eX12_bowl_75 rfl ?_
      refine zr_iload_n hE eX12_bowl_76 rfl ?_
      refine zr_callV1 hE eX12_bowl_77 lX12_148 zs57 rfl rfl (by decide) (Nat.le_of_ble_eq_true rfl) (c_X12_rise xb.1 xb.2.1 ?_)
      refine hR.2.1 _ _ _ _ _ _ eX12_bowl_80 rfl rfl ?_
      exact zq (hQ2 xb.2.2.1) (by unfold mbR; rw [if_neg zk11_0, if_neg zk11_1, if_neg zk11_2, if_neg zk11_3, if_neg zk11_4, if_neg zk11_5, if_neg zk11_6, if_pos zk11_7])
    refine zr_tableOut hE eX12_bowl_11 (tgt := 81) ?_ (by decide) ?_
    · have zm0 := zne zk11_0 (v := 0) (by decide); have zm1 := zne zk11_1 (v := 1) (by decide); have zm2 := zne zk11_2 (v := 2) (by decide); have zm3 := zne zk11_3 (v := 3) (by decide); have zm4 := zne zk11_4 (v := 4) (by decide); have zm5 := zne zk11_5 (v := 5) (by decide); have zm6 := zne zk11_6 (v := 6) (by decide); have zm7 := zne zk11_7 (v := 7) (by decide); omega
    refine zr_iconst hE eX12_bowl_81 (v := -1) (by decide) ?_
    refine hR.2.1 _ _ _ _ _ _ eX12_bowl_82 rfl rfl ?_
    exact zq (hQ2 xb.2.2.1) (by unfold mbR; rw [if_neg zk11_0, if_neg zk11_1, if_neg zk11_2, if_neg zk11_3, if_neg zk11_4, if_neg zk11_5, if_neg zk11_6, if_neg zk11_7])
  · refine zr_iconst hE eX12_bowl_8 (v := -1) (by decide) ?_
    refine hR.2.1 _ _ _ _ _ _ eX12_bowl_9 rfl rfl ?_
    exact hQ1 (isB_no hM zc5)

