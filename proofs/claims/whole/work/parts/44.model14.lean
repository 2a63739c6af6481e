/-! The reference: comes. -/
def mcP (s e t : Int32) : Prop := fIs s 1 99 = true ∧ fIs e 1 99 = true ∧ fIs t 0 1 = true
theorem mAd_0 {w : ww} {c : Nat} {k f t s d : Int32} : mAd w c k f t s d 58 0 = w 58 0 := by
  unfold mAd
  rw [wu_nj (by omega), wu_nj (by omega), wu_nj (by omega), wu_nj (by omega), wu_nj (by omega)]
set_option maxHeartbeats 4000000 in
theorem c_X12_comes {c : Nat} {d s e t : Int32} {w : ww} {Q : Option Value → ww → Prop} (hM : Mow w c) (hQ1 : ¬ mcP s e t → Q (some (.int (-1))) w) (hQ2 : mcP s e t → ¬ mrK w d = 0 → Q (some (.int (mrK w d))) w) (hQ3 : mcP s e t → mrK w d = 0 → c = 9 → Q (some (.int (-2))) w) (hQ4 : mcP s e t → mrK w d = 0 → c < 9 → Q (some (.int (nI c))) (wu (mAd w c (w 65 d.toNatClampNeg) (w 66 d.toNatClampNeg) t s e) 58 0 (nI (c + 1)))) : Ct mX12_comes 4 [.ref 57, .int d, .int s, .int e, .int t] w Q := by
  refine Ct.of (by decide) (Nat.le_of_ble_eq_true rfl) (fun _ => Nat.le_of_ble_eq_true rfl) (fun G hR => ?_)
  have hE := hR.1
  refine zr_iload_n hE eX12_comes_0 rfl ?_
  refine zr_i2l hE eX12_comes_1 ?_
  refine zr_lconst hE eX12_comes_2 (v := 1) (by decide) ?_
  refine zr_ldc2 hE eX12_comes_3 hX12_151 ?_
  refine zr_callS3 hE eX12_comes_6 lX12_55 (by decide) (Nat.le_of_ble_eq_true rfl) (c_X12_isIn32 1 99 (by decide) (by decide) ?_)
  refine zr_beq hE eX12_comes_9 (tgt := 35) (by decide) (fun zc9 => ?_) (fun zc9 => ?_)
  · refine zr_iconst hE eX12_comes_35 (v := -1) (by decide) ?_
    refine zr_goto hE eX12_comes_36 (tgt := 44) (by decide) ?_
    refine zr_istore hE eX12_comes_44 (by decide) rfl ?_
    refine zr_iload hE eX12_comes_46 rfl ?_
    refine zr_if_ne hE eX12_comes_48 (tgt := 66) (by decide) (fun _ => ?_) (fun zc48 => absurd zc48 (by decide))
    refine zr_iload hE eX12_comes_66 rfl ?_
    refine zr_if_eq hE eX12_comes_68 (tgt := 74) (by decide) (fun zc68 => absurd zc68 (by decide)) (fun _ => ?_)
    refine zr_iload hE eX12_comes_71 rfl ?_
    refine hR.2.1 _ _ _ _ _ _ eX12_comes_73 rfl rfl ?_
    exact hQ1 (fun x => by rw [x.1] at zc9; cases zc9)
  · refine zr_iload_n hE eX12_comes_12 rfl ?_
    refine zr_i2l hE eX12_comes_13 ?_
    refine zr_lconst hE eX12_comes_14 (v := 1) (by decide) ?_
    refine zr_ldc2 hE eX12_comes_15 hX12_151 ?_
    refine zr_callS3 hE eX12_comes_18 lX12_55 (by decide) (Nat.le_of_ble_eq_true rfl) (c_X12_isIn32 1 99 (by decide) (by decide) ?_)
    refine zr_beq hE eX12_comes_21 (tgt := 35) (by decide) (fun zc21 => ?_) (fun zc21 => ?_)
    · refine zr_iconst hE eX12_comes_35 (v := -1) (by decide) ?_
      refine zr_goto hE eX12_comes_36 (tgt := 44) (by decide) ?_
      refine zr_istore hE eX12_comes_44 (by decide) rfl ?_
      refine zr_iload hE eX12_comes_46 rfl ?_
      refine zr_if_ne hE eX12_comes_48 (tgt := 66) (by decide) (fun _ => ?_) (fun zc48 => absurd zc48 (by decide))
      refine zr_iload hE eX12_comes_66 rfl ?_
      refine zr_if_eq hE eX12_comes_68 (tgt := 74) (by decide) (fun zc68 => absurd zc68 (by decide)) (fun _ => ?_)
      refine zr_iload hE eX12_comes_71 rfl ?_
      refine hR.2.1 _ _ _ _ _ _ eX12_comes_73 rfl rfl ?_
      exact hQ1 (fun x => by rw [x.2.1] at zc21; cases zc21)
    · refine zr_iload hE eX12_comes_24 rfl ?_
      refine zr_i2l hE eX12_comes_26 ?_
      refine zr_lconst hE eX12_comes_27 (v := 0) (by decide) ?_
      refine zr_lconst hE eX12_comes_28 (v := 1) (by decide) ?_
      refine zr_callS3 hE eX12_comes_29 lX12_55 (by decide) (Nat.le_of_ble_eq_true rfl) (c_X12_isIn32 0 1 (by decide) (by decide) ?_)
      refine zr_bne hE eX12_comes_32 (tgt := 39) (by decide) (fun zc32 => ?_) (fun zc32 => ?_)
      · refine zr_aload_n hE eX12_comes_39 rfl ?_
        refine zr_iload_n hE eX12_comes_40 rfl ?_
        refine zr_callV1 hE eX12_comes_41 lX12_153 zs57 rfl rfl (by decide) (Nat.le_of_ble_eq_true rfl) (c_X12_wrongKept ?_)
        refine zr_istore hE eX12_comes_44 (by decide) rfl ?_
        refine zr_iload hE eX12_comes_46 rfl ?_
        refine zr_if_ne hE eX12_comes_48 (tgt := 66) (by decide) (fun zc48 => ?_) (fun zc48 => ?_)
        · refine zr_iload hE eX12_comes_66 rfl ?_
          refine zr_if_eq hE eX12_comes_68 (tgt := 74) (by decide) (fun zc68 => ?_) (fun zc68 => ?_)
          · refine zr_aload_n hE eX12_comes_74 rfl ?_
            refine zr_aload_n hE eX12_comes_75 rfl ?_
            refine zr_getR hE eX12_comes_76 fX12_31 zs57 rfl ?_
            refine zr_iload_n hE eX12_comes_79 rfl ?_
            refine zr_iald hE eX12_comes_80 zs65 (fIs_vp (mrK_0 (by first | exact zc48 | exact zc68)).1) ?_
            refine zr_aload_n hE eX12_comes_81 rfl ?_
            refine zr_getR hE eX12_comes_82 fX12_34 zs57 rfl ?_
            refine zr_iload_n hE eX12_comes_85 rfl ?_
            refine zr_iald hE eX12_comes_86 zs66 (fIs_vp (mrK_0 (by first | exact zc48 | exact zc68)).1) ?_
            refine zr_iload hE eX12_comes_87 rfl ?_
            refine zr_iload_n hE eX12_comes_89 rfl ?_
            refine zr_iload_n hE eX12_comes_90 rfl ?_
            refine zr_callV5 hE eX12_comes_91 lX12_156 zs57 rfl rfl (by decide) (Nat.le_of_ble_eq_true rfl) (c_X12_adds (c := c) hM.1 hM.2.1 ?_)
            refine zr_aload_n hE eX12_comes_94 rfl ?_
            refine zr_getR hE eX12_comes_95 fX12_9 zs57 rfl ?_
            refine zr_iconst hE eX12_comes_98 (v := 0) (by decide) ?_
            refine zr_dup2 hE eX12_comes_99 rfl rfl ?_
            refine zr_ialdv hE eX12_comes_100 zs58 (by unfold vp_in; decide) (mAd_0.trans hM.2.1) ?_
            refine zr_iconst hE eX12_comes_101 (v := 1) (by decide) ?_
            refine zr_iadd hE eX12_comes_102 ?_
            show G _ _ (.int (nI c + 1) :: _) _
            rw [nI_1]
            refine zr_iast hE eX12_comes_103 zs58 (by unfold vp_in; decide) ?_
            refine zr_aload_n hE eX12_comes_104 rfl ?_
            refine zr_getR hE eX12_comes_105 fX12_9 zs57 rfl ?_
            refine zr_iconst hE eX12_comes_108 (v := 0) (by decide) ?_
            refine zr_ialdv hE eX12_comes_109 zs58 (by unfold vp_in; decide) wu_eq ?_
            refine zr_iconst hE eX12_comes_110 (v := 1) (by decide) ?_
            refine zr_isub hE eX12_comes_111 ?_
            simp only [nI_pred]
            refine hR.2.1 _ _ _ _ _ _ eX12_comes_112 rfl rfl ?_
            exact absurd zc68 zc48
          · refine zr_iload hE eX12_comes_71 rfl ?_
            refine hR.2.1 _ _ _ _ _ _ eX12_comes_73 rfl rfl ?_
            exact hQ2 ⟨zc9, zc21, zc32⟩ zc48
        · refine zr_aload_n hE eX12_comes_51 rfl ?_
          refine zr_getR hE eX12_comes_52 fX12_9 zs57 rfl ?_
          refine zr_iconst hE eX12_comes_55 (v := 0) (by decide) ?_
          refine zr_ialdv hE eX12_comes_56 zs58 (by unfold vp_in; decide) hM.2.1 ?_
          refine zr_bipush hE eX12_comes_57 (v := 9) (by decide) ?_
          refine zr_icmp_ne hE eX12_comes_59 (tgt := 66) (by decide) (fun zc59 => ?_) (fun zc59 => ?_)
          · refine zr_iload hE eX12_comes_66 rfl ?_
            refine zr_if_eq hE eX12_comes_68 (tgt := 74) (by decide) (fun zc68 => ?_) (fun zc68 => ?_)
            · refine zr_aload_n hE eX12_comes_74 rfl ?_
              refine zr_aload_n hE eX12_comes_75 rfl ?_
              refine zr_getR hE eX12_comes_76 fX12_31 zs57 rfl ?_
              refine zr_iload_n hE eX12_comes_79 rfl ?_
              refine zr_iald hE eX12_comes_80 zs65 (fIs_vp (mrK_0 (by first | exact zc48 | exact zc68)).1) ?_
              refine zr_aload_n hE eX12_comes_81 rfl ?_
              refine zr_getR hE eX12_comes_82 fX12_34 zs57 rfl ?_
              refine zr_iload_n hE eX12_comes_85 rfl ?_
              refine zr_iald hE eX12_comes_86 zs66 (fIs_vp (mrK_0 (by first | exact zc48 | exact zc68)).1) ?_
              refine zr_iload hE eX12_comes_87 rfl ?_
              refine zr_iload_n hE eX12_comes_89 rfl ?_
              refine zr_iload_n hE eX12_comes_90 rfl ?_
              refine zr_callV5 hE eX12_comes_91 lX12_156 zs57 rfl rfl (by decide) (Nat.le_of_ble_eq_true rfl) (c_X12_adds (c := c) hM.1 hM.2.1 ?_)
              refine zr_aload_n hE eX12_comes_94 rfl ?_
              refine zr_getR hE eX12_comes_95 fX12_9 zs57 rfl ?_
              refine zr_iconst hE eX12_comes_98 (v := 0) (by decide) ?_
              refine zr_dup2 hE eX12_comes_99 rfl rfl ?_
              refine zr_ialdv hE eX12_comes_100 zs58 (by unfold vp_in; decide) (mAd_0.trans hM.2.1) ?_
              refine zr_iconst hE eX12_comes_101 (v := 1) (by decide) ?_
              refine zr_iadd hE eX12_comes_102 ?_
              show G _ _ (.int (nI c + 1) :: _) _
              rw [nI_1]
              refine zr_iast hE eX12_comes_103 zs58 (by unfold vp_in; decide) ?_
              refine zr_aload_n hE eX12_comes_104 rfl ?_
              refine zr_getR hE eX12_comes_105 fX12_9 zs57 rfl ?_
              refine zr_iconst hE eX12_comes_108 (v := 0) (by decide) ?_
              refine zr_ialdv hE eX12_comes_109 zs58 (by unfold vp_in; decide) wu_eq ?_
              refine zr_iconst hE eX12_comes_110 (v := 1) (by decide) ?_
              refine zr_isub hE eX12_comes_111 ?_
              simp only [nI_pred]
              refine hR.2.1 _ _ _ _ _ _ eX12_comes_112 rfl rfl ?_
              exact hQ4 ⟨zc9, zc21, zc32⟩ zc48 (by have := hM.1; have : c ≠ 9 := fun q => zc59 (by rw [q]; rfl); omega)
            · refine zr_iload hE eX12_comes_71 rfl ?_
              refine hR.2.1 _ _ _ _ _ _ eX12_comes_73 rfl rfl ?_
              exact absurd zc48 zc68
          · refine zr_bipush hE eX12_comes_62 (v := -2) (by decide) ?_
            refine zr_istore hE eX12_comes_64 (by decide) rfl ?_
            refine zr_iload hE eX12_comes_66 rfl ?_
            refine zr_if_eq hE eX12_comes_68 (tgt := 74) (by decide) (fun zc68 => absurd zc68 (by decide)) (fun _ => ?_)
            refine zr_iload hE eX12_comes_71 rfl ?_
            refine hR.2.1 _ _ _ _ _ _ eX12_comes_73 rfl rfl ?_
            exact hQ3 ⟨zc9, zc21, zc32⟩ zc48 ((nI_eqI (by have := hM.1; omega) (by decide)).mp zc59)
      · refine zr_iconst hE eX12_comes_35 (v := -1) (by decide) ?_
        refine zr_goto hE eX12_comes_36 (tgt := 44) (by decide) ?_
        refine zr_istore hE eX12_comes_44 (by decide) rfl ?_
        refine zr_iload hE eX12_comes_46 rfl ?_
        refine zr_if_ne hE eX12_comes_48 (tgt := 66) (by decide) (fun _ => ?_) (fun zc48 => absurd zc48 (by decide))
        refine zr_iload hE eX12_comes_66 rfl ?_
        refine zr_if_eq hE eX12_comes_68 (tgt := 74) (by decide) (fun zc68 => absurd zc68 (by decide)) (fun _ => ?_)
        refine zr_iload hE eX12_comes_71 rfl ?_
        refine hR.2.1 _ _ _ _ _ _ eX12_comes_73 rfl rfl ?_
        exact hQ1 (fun x => by rw [x.2.2] at zc32; cases zc32)

