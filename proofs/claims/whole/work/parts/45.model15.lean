/-! The reference: drawn. -/
set_option maxHeartbeats 4000000 in
theorem c_X12_drawn {n : Int32} {w : ww} {Q : Option Value → ww → Prop} (hn : ¬ n = 0) (hQ : Q (some (.int (bkD n (w 57 19 * 1103515245 + 12345)))) (wu w 57 19 (w 57 19 * 1103515245 + 12345))) : Ct mX12_drawn 1 [.ref 57, .int n] w Q := by
  refine Ct.of (by decide) (Nat.le_of_ble_eq_true rfl) (fun _ => Nat.le_of_ble_eq_true rfl) (fun G hR => ?_)
  have hE := hR.1
  refine zr_aload_n hE eX12_drawn_0 rfl ?_
  refine zr_aload_n hE eX12_drawn_1 rfl ?_
  refine zr_getI hE eX12_drawn_2 fX12_218 zs57 rfl ?_
  refine zr_ldc hE eX12_drawn_5 hX12_221 ?_
  refine zr_imul hE eX12_drawn_7 ?_
  refine zr_sipush hE eX12_drawn_8 (v := 12345) (by decide) ?_
  refine zr_iadd hE eX12_drawn_11 ?_
  refine zr_put hE eX12_drawn_12 gX12_218 zs57 rfl rfl rfl ?_
  refine zr_aload_n hE eX12_drawn_15 rfl ?_
  refine zr_getI hE eX12_drawn_16 fX12_218 zs57 rfl ?_
  refine zr_ldc hE eX12_drawn_19 hX12_222 ?_
  refine zr_iand hE eX12_drawn_21 ?_
  refine zr_ldc hE eX12_drawn_22 hX12_223 ?_
  refine zr_idiv hE eX12_drawn_24 (by decide) ?_
  refine zr_iload_n hE eX12_drawn_25 rfl ?_
  refine zr_irem hE eX12_drawn_26 hn ?_
  refine hR.2.1 _ _ _ _ _ _ eX12_drawn_27 rfl rfl ?_
  refine zq hQ ?_
  unfold bkD
  rw [wu_eq]

