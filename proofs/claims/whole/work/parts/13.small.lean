/-! A heap's plain writes; shelves' plain methods; the class's own small helps. -/
def hPl (w : ww) (h : Nat) (k f t s d : Int32) : ww := wu (wu (wu (wu (wu (wu w (h+1) (w h 7).toNatClampNeg k) (h+2) (w h 7).toNatClampNeg f) (h+3) (w h 7).toNatClampNeg t) (h+4) (w h 7).toNatClampNeg s) (h+5) (w h 7).toNatClampNeg d) h 7 (w h 7 + 1)
theorem wu_ne {w : ww} {o i p j : Nat} {v : Int32} (h : p ≠ o) : wu w o i v p j = w p j := by simp [wu, h]
theorem wu_nj {w : ww} {o i p j : Nat} {v : Int32} (h : j ≠ i) : wu w o i v p j = w p j := by simp [wu, h]
theorem wu_eq {w : ww} {o i : Nat} {v : Int32} : wu w o i v o i = v := by simp [wu]
theorem wu_c1 {w : ww} {h j i : Nat} {v : Int32} (hj : j ≠ 0) : wu w (h + j) i v h 7 = w h 7 := wu_ne (by omega)
set_option maxHeartbeats 4000000 in
theorem c_X5_place {h : Nat} {k f t s d : Int32} {w : ww} {Q : Option Value → ww → Prop} (hh : zH h) (hc : vp_in (w h 7) 10) (hQ : Q none (hPl w h k f t s d)) : Ct mX5_place 1 [.ref h, .int k, .int f, .int t, .int s, .int d] w Q := by
  refine Ct.of (by decide) (Nat.le_of_ble_eq_true rfl) (fun _ => Nat.le_of_ble_eq_true rfl) (fun G hR => ?_)
  have hE := hR.1
  refine zr_aload_n hE eX5_place_0 rfl ?_
  refine zr_getR hE eX5_place_1 fX5_11 (hh).s0 rfl ?_
  refine zr_aload_n hE eX5_place_4 rfl ?_
  refine zr_getI hE eX5_place_5 fX5_34 (hh).s0 rfl ?_
  refine zr_iload_n hE eX5_place_8 rfl ?_
  refine zr_iast hE eX5_place_9 (hh).s1 (by first | assumption | simp only [wu_c1 (show 1 ≠ 0 by decide), wu_c1 (show 2 ≠ 0 by decide), wu_c1 (show 3 ≠ 0 by decide), wu_c1 (show 4 ≠ 0 by decide), wu_c1 (show 5 ≠ 0 by decide)]; assumption) ?_
  refine zr_aload_n hE eX5_place_10 rfl ?_
  refine zr_getR hE eX5_place_11 fX5_15 (hh).s0 rfl ?_
  refine zr_aload_n hE eX5_place_14 rfl ?_
  refine zr_getI hE eX5_place_15 fX5_34 (hh).s0 rfl ?_
  refine zr_iload_n hE eX5_place_18 rfl ?_
  refine zr_iast hE eX5_place_19 (hh).s2 (by first | assumption | simp only [wu_c1 (show 1 ≠ 0 by decide), wu_c1 (show 2 ≠ 0 by decide), wu_c1 (show 3 ≠ 0 by decide), wu_c1 (show 4 ≠ 0 by decide), wu_c1 (show 5 ≠ 0 by decide)]; assumption) ?_
  refine zr_aload_n hE eX5_place_20 rfl ?_
  refine zr_getR hE eX5_place_21 fX5_18 (hh).s0 rfl ?_
  refine zr_aload_n hE eX5_place_24 rfl ?_
  refine zr_getI hE eX5_place_25 fX5_34 (hh).s0 rfl ?_
  refine zr_iload_n hE eX5_place_28 rfl ?_
  refine zr_iast hE eX5_place_29 (hh).s3 (by first | assumption | simp only [wu_c1 (show 1 ≠ 0 by decide), wu_c1 (show 2 ≠ 0 by decide), wu_c1 (show 3 ≠ 0 by decide), wu_c1 (show 4 ≠ 0 by decide), wu_c1 (show 5 ≠ 0 by decide)]; assumption) ?_
  refine zr_aload_n hE eX5_place_30 rfl ?_
  refine zr_getR hE eX5_place_31 fX5_21 (hh).s0 rfl ?_
  refine zr_aload_n hE eX5_place_34 rfl ?_
  refine zr_getI hE eX5_place_35 fX5_34 (hh).s0 rfl ?_
  refine zr_iload hE eX5_place_38 rfl ?_
  refine zr_iast hE eX5_place_40 (hh).s4 (by first | assumption | simp only [wu_c1 (show 1 ≠ 0 by decide), wu_c1 (show 2 ≠ 0 by decide), wu_c1 (show 3 ≠ 0 by decide), wu_c1 (show 4 ≠ 0 by decide), wu_c1 (show 5 ≠ 0 by decide)]; assumption) ?_
  refine zr_aload_n hE eX5_place_41 rfl ?_
  refine zr_getR hE eX5_place_42 fX5_24 (hh).s0 rfl ?_
  refine zr_aload_n hE eX5_place_45 rfl ?_
  refine zr_getI hE eX5_place_46 fX5_34 (hh).s0 rfl ?_
  refine zr_iload hE eX5_place_49 rfl ?_
  refine zr_iast hE eX5_place_51 (hh).s5 (by first | assumption | simp only [wu_c1 (show 1 ≠ 0 by decide), wu_c1 (show 2 ≠ 0 by decide), wu_c1 (show 3 ≠ 0 by decide), wu_c1 (show 4 ≠ 0 by decide), wu_c1 (show 5 ≠ 0 by decide)]; assumption) ?_
  refine zr_aload_n hE eX5_place_52 rfl ?_
  refine zr_dup hE eX5_place_53 rfl ?_
  refine zr_getI hE eX5_place_54 fX5_34 (hh).s0 rfl ?_
  refine zr_iconst hE eX5_place_57 (v := 1) (by decide) ?_
  refine zr_iadd hE eX5_place_58 ?_
  refine zr_put hE eX5_place_59 gX5_34 (hh).s0 rfl rfl rfl ?_
  refine hR.2.2.2 _ _ _ _ eX5_place_62 rfl ?_
  refine zqv hQ ?_
  simp only [hPl, wu_c1 (show 1 ≠ 0 by decide), wu_c1 (show 2 ≠ 0 by decide), wu_c1 (show 3 ≠ 0 by decide), wu_c1 (show 4 ≠ 0 by decide), wu_c1 (show 5 ≠ 0 by decide)]

set_option maxHeartbeats 4000000 in
theorem c_X5_add {h : Nat} {k f t s d : Int32} {w : ww} {Q : Option Value → ww → Prop} (hh : zH h) (hc : ¬ 9 ≤ w h 7 → vp_in (w h 7) 10) (hQ1 : 9 ≤ w h 7 → Q (some (.int 0)) w) (hQ2 : ¬ 9 ≤ w h 7 → Q (some (.int 1)) (hPl w h k f t s d))  : Ct mX5_add 2 [.ref h, .int k, .int f, .int t, .int s, .int d] w Q := by
  refine Ct.of (by decide) (Nat.le_of_ble_eq_true rfl) (fun _ => Nat.le_of_ble_eq_true rfl) (fun G hR => ?_)
  have hE := hR.1
  refine zr_aload_n hE eX5_add_0 rfl ?_
  refine zr_getI hE eX5_add_1 fX5_34 (hh).s0 rfl ?_
  refine zr_bipush hE eX5_add_4 (v := 9) (by decide) ?_
  refine zr_kicmp_lt hE eX5_add_6 (tgt := 11) (by decide) (fun zc6 zd6 => ?_) (fun zc6 zd6 => ?_)
  · refine zr_aload_n hE eX5_add_11 rfl ?_
    refine zr_iload_n hE eX5_add_12 rfl ?_
    refine zr_iload_n hE eX5_add_13 rfl ?_
    refine zr_iload_n hE eX5_add_14 rfl ?_
    refine zr_iload hE eX5_add_15 rfl ?_
    refine zr_iload hE eX5_add_17 rfl ?_
    refine zr_callV5 hE eX5_add_19 lX5_47 (hh).s0 rfl rfl (by decide) (Nat.le_of_ble_eq_true rfl) (c_X5_place hh (hc (by assumption)) ?_)
    refine zr_iconst hE eX5_add_22 (v := 1) (by decide) ?_
    refine hR.2.1 _ _ _ _ _ _ eX5_add_23 rfl rfl ?_
    first | exact hQ1 (by assumption) | exact hQ2 (by assumption)
  · refine zr_iconst hE eX5_add_9 (v := 0) (by decide) ?_
    refine hR.2.1 _ _ _ _ _ _ eX5_add_10 rfl rfl ?_
    first | exact hQ1 (by assumption) | exact hQ2 (by assumption)

set_option maxHeartbeats 4000000 in
theorem c_X5_think {h : Nat} {s d : Int32} {w : ww} {Q : Option Value → ww → Prop} (hh : zH h) (hc : vp_in (w h 7) 10) (hQ : Q (some (.int (w h 7))) (hPl w h 0 0 0 s d))  : Ct mX5_think 2 [.ref h, .int s, .int d] w Q := by
  refine Ct.of (by decide) (Nat.le_of_ble_eq_true rfl) (fun _ => Nat.le_of_ble_eq_true rfl) (fun G hR => ?_)
  have hE := hR.1
  refine zr_aload_n hE eX5_think_0 rfl ?_
  refine zr_getI hE eX5_think_1 fX5_34 (hh).s0 rfl ?_
  refine zr_bipush hE eX5_think_4 (v := 10) (by decide) ?_
  refine zr_kicmp_ge hE eX5_think_6 (tgt := 18) (by decide) (fun zc6 zd6 => ?_) (fun zc6 zd6 => ?_)
  · refine zr_aload_n hE eX5_think_18 rfl ?_
    refine zr_getI hE eX5_think_19 fX5_34 (hh).s0 rfl ?_
    refine zr_iconst hE eX5_think_22 (v := 1) (by decide) ?_
    refine zr_isub hE eX5_think_23 ?_
    refine hR.2.1 _ _ _ _ _ _ eX5_think_24 rfl rfl ?_
    first | exact zq hQ (by simp only [hPl, wu_eq]; rw [Int32.add_sub_cancel]) | exact absurd (show w h 7 < 10 by rw [Int32.lt_iff_toInt_lt]; exact (vp_in_iff.mp hc).2) (by assumption)
  · refine zr_aload_n hE eX5_think_9 rfl ?_
    refine zr_iconst hE eX5_think_10 (v := 0) (by decide) ?_
    refine zr_iconst hE eX5_think_11 (v := 0) (by decide) ?_
    refine zr_iconst hE eX5_think_12 (v := 0) (by decide) ?_
    refine zr_iload_n hE eX5_think_13 rfl ?_
    refine zr_iload_n hE eX5_think_14 rfl ?_
    refine zr_callV5 hE eX5_think_15 lX5_47 (hh).s0 rfl rfl (by decide) (Nat.le_of_ble_eq_true rfl) (c_X5_place hh hc ?_)
    refine zr_aload_n hE eX5_think_18 rfl ?_
    refine zr_getI hE eX5_think_19 fX5_34 (hh).s0 rfl ?_
    refine zr_iconst hE eX5_think_22 (v := 1) (by decide) ?_
    refine zr_isub hE eX5_think_23 ?_
    refine hR.2.1 _ _ _ _ _ _ eX5_think_24 rfl rfl ?_
    first | exact zq hQ (by simp only [hPl, wu_eq]; rw [Int32.add_sub_cancel]) | exact absurd (show w h 7 < 10 by rw [Int32.lt_iff_toInt_lt]; exact (vp_in_iff.mp hc).2) (by assumption)

set_option maxHeartbeats 4000000 in
theorem c_X5_dropLatest {h : Nat} {w : ww} {Q : Option Value → ww → Prop} (hh : zH h) (hQ1 : w h 7 = 0 → Q (some (.int 0)) w) (hQ2 : ¬ w h 7 = 0 → Q (some (.int 1)) (wu w h 7 (w h 7 - 1)))  : Ct mX5_dropLatest 1 [.ref h] w Q := by
  refine Ct.of (by decide) (Nat.le_of_ble_eq_true rfl) (fun _ => Nat.le_of_ble_eq_true rfl) (fun G hR => ?_)
  have hE := hR.1
  refine zr_aload_n hE eX5_dropLatest_0 rfl ?_
  refine zr_getI hE eX5_dropLatest_1 fX5_34 (hh).s0 rfl ?_
  refine zr_if_ne hE eX5_dropLatest_4 (tgt := 9) (by decide) (fun zc4 => ?_) (fun zc4 => ?_)
  · refine zr_aload_n hE eX5_dropLatest_9 rfl ?_
    refine zr_dup hE eX5_dropLatest_10 rfl ?_
    refine zr_getI hE eX5_dropLatest_11 fX5_34 (hh).s0 rfl ?_
    refine zr_iconst hE eX5_dropLatest_14 (v := 1) (by decide) ?_
    refine zr_isub hE eX5_dropLatest_15 ?_
    refine zr_put hE eX5_dropLatest_16 gX5_34 (hh).s0 rfl rfl rfl ?_
    refine zr_iconst hE eX5_dropLatest_19 (v := 1) (by decide) ?_
    refine hR.2.1 _ _ _ _ _ _ eX5_dropLatest_20 rfl rfl ?_
    first | exact hQ1 (by assumption) | exact hQ2 (by assumption)
  · refine zr_iconst hE eX5_dropLatest_7 (v := 0) (by decide) ?_
    refine hR.2.1 _ _ _ _ _ _ eX5_dropLatest_8 rfl rfl ?_
    first | exact hQ1 (by assumption) | exact hQ2 (by assumption)

set_option maxHeartbeats 4000000 in
theorem c_X5_flip {h : Nat} {b : Int32} {w : ww} {Q : Option Value → ww → Prop} (hh : zH h) (hb : 0 ≤ b ∧ b < w h 7 → vp_in b 10) (hQ1 : ¬ (0 ≤ b ∧ b < w h 7) → Q (some (.int 0)) w) (hQ2 : 0 ≤ b ∧ b < w h 7 → Q (some (.int 1)) (wu w (h+3) b.toNatClampNeg (1 - w (h+3) b.toNatClampNeg)))  : Ct mX5_flip 2 [.ref h, .int b] w Q := by
  refine Ct.of (by decide) (Nat.le_of_ble_eq_true rfl) (fun _ => Nat.le_of_ble_eq_true rfl) (fun G hR => ?_)
  have hE := hR.1
  refine zr_aload_n hE eX5_flip_0 rfl ?_
  refine zr_iload_n hE eX5_flip_1 rfl ?_
  refine zr_callV1 hE eX5_flip_2 lX5_51 (hh).s0 rfl rfl (by decide) (Nat.le_of_ble_eq_true rfl) (c_X5_has hh ?_)
  refine zr_bne hE eX5_flip_5 (tgt := 10) (by decide) (fun zc5 => ?_) (fun zc5 => ?_)
  · refine zr_aload_n hE eX5_flip_10 rfl ?_
    refine zr_getR hE eX5_flip_11 fX5_18 (hh).s0 rfl ?_
    refine zr_iload_n hE eX5_flip_14 rfl ?_
    refine zr_iconst hE eX5_flip_15 (v := 1) (by decide) ?_
    refine zr_aload_n hE eX5_flip_16 rfl ?_
    refine zr_getR hE eX5_flip_17 fX5_18 (hh).s0 rfl ?_
    refine zr_iload_n hE eX5_flip_20 rfl ?_
    refine zr_iald hE eX5_flip_21 (hh).s3 (hb (by simp_all)) ?_
    refine zr_isub hE eX5_flip_22 ?_
    refine zr_iast hE eX5_flip_23 (hh).s3 (hb (by simp_all)) ?_
    refine zr_iconst hE eX5_flip_24 (v := 1) (by decide) ?_
    refine hR.2.1 _ _ _ _ _ _ eX5_flip_25 rfl rfl ?_
    first | exact hQ2 (by simp_all) | exact hQ1 (by simp_all)
  · refine zr_iconst hE eX5_flip_8 (v := 0) (by decide) ?_
    refine hR.2.1 _ _ _ _ _ _ eX5_flip_9 rfl rfl ?_
    first | exact hQ2 (by simp_all) | exact hQ1 (by simp_all)

set_option maxHeartbeats 4000000 in
theorem c_X10_clear {h : Nat} {w : ww} {Q : Option Value → ww → Prop} (hh : zSf h)  (hQ : Q none (wu w h 1 0)) : Ct mX10_clear 1 [.ref h] w Q := by
  refine Ct.of (by decide) (Nat.le_of_ble_eq_true rfl) (fun _ => Nat.le_of_ble_eq_true rfl) (fun G hR => ?_)
  have hE := hR.1
  refine zr_aload_n hE eX10_clear_0 rfl ?_
  refine zr_iconst hE eX10_clear_1 (v := 0) (by decide) ?_
  refine zr_put hE eX10_clear_2 gX10_15 (hh).s0 rfl rfl rfl ?_
  refine hR.2.2.2 _ _ _ _ eX10_clear_5 rfl ?_
  exact hQ

set_option maxHeartbeats 4000000 in
theorem c_X10_holdBowl {h : Nat} {k f : Int32} {w : ww} {Q : Option Value → ww → Prop} (hh : zSf h)  (hQ : Q none (wu (wu (wu w h 1 1) h 2 k) h 3 f)) : Ct mX10_holdBowl 1 [.ref h, .int k, .int f] w Q := by
  refine Ct.of (by decide) (Nat.le_of_ble_eq_true rfl) (fun _ => Nat.le_of_ble_eq_true rfl) (fun G hR => ?_)
  have hE := hR.1
  refine zr_aload_n hE eX10_holdBowl_0 rfl ?_
  refine zr_iconst hE eX10_holdBowl_1 (v := 1) (by decide) ?_
  refine zr_put hE eX10_holdBowl_2 gX10_15 (hh).s0 rfl rfl rfl ?_
  refine zr_aload_n hE eX10_holdBowl_5 rfl ?_
  refine zr_iload_n hE eX10_holdBowl_6 rfl ?_
  refine zr_put hE eX10_holdBowl_7 gX10_19 (hh).s0 rfl rfl rfl ?_
  refine zr_aload_n hE eX10_holdBowl_10 rfl ?_
  refine zr_iload_n hE eX10_holdBowl_11 rfl ?_
  refine zr_put hE eX10_holdBowl_12 gX10_22 (hh).s0 rfl rfl rfl ?_
  refine hR.2.2.2 _ _ _ _ eX10_holdBowl_15 rfl ?_
  exact hQ

set_option maxHeartbeats 4000000 in
theorem c_X10_hasPlace {h : Nat} {i : Int32} {w : ww} {Q : Option Value → ww → Prop} (hh : zSf h)  (hQ : Q (some (.int (bi (decide (0 ≤ i) && decide (i < w h 5))))) w) : Ct mX10_hasPlace 1 [.ref h, .int i] w Q := by
  refine Ct.of (by decide) (Nat.le_of_ble_eq_true rfl) (fun _ => Nat.le_of_ble_eq_true rfl) (fun G hR => ?_)
  have hE := hR.1
  refine zr_iload_n hE eX10_hasPlace_0 rfl ?_
  refine zr_kif_lt hE eX10_hasPlace_1 (tgt := 16) (by decide) (fun zc1 zd1 => ?_) (fun zc1 zd1 => ?_)
  · refine zr_iconst hE eX10_hasPlace_16 (v := 0) (by decide) ?_
    refine hR.2.1 _ _ _ _ _ _ eX10_hasPlace_17 rfl rfl ?_
    exact zq hQ (zb0 (by simp_all [-Int32.not_le, -Int32.not_lt]))
  · refine zr_iload_n hE eX10_hasPlace_4 rfl ?_
    refine zr_aload_n hE eX10_hasPlace_5 rfl ?_
    refine zr_getI hE eX10_hasPlace_6 fX10_28 (hh).s0 rfl ?_
    refine zr_kicmp_ge hE eX10_hasPlace_9 (tgt := 16) (by decide) (fun zc9 zd9 => ?_) (fun zc9 zd9 => ?_)
    · refine zr_iconst hE eX10_hasPlace_16 (v := 0) (by decide) ?_
      refine hR.2.1 _ _ _ _ _ _ eX10_hasPlace_17 rfl rfl ?_
      exact zq hQ (zb0 (by simp_all [-Int32.not_le, -Int32.not_lt]))
    · refine zr_iconst hE eX10_hasPlace_12 (v := 1) (by decide) ?_
      refine zr_goto hE eX10_hasPlace_13 (tgt := 17) (by decide) ?_
      refine hR.2.1 _ _ _ _ _ _ eX10_hasPlace_17 rfl rfl ?_
      exact zq hQ (zb1 (by simp_all [-Int32.not_le, -Int32.not_lt]))

set_option maxHeartbeats 4000000 in
theorem c_X10_hasStretch {h : Nat} {i n : Int32} {w : ww} {Q : Option Value → ww → Prop} (hh : zSf h)  (hQ : Q (some (.int (bi (decide (0 ≤ n) && decide (n ≤ w h 5) && decide (0 ≤ i) && decide (i ≤ w h 5 - n))))) w) : Ct mX10_hasStretch 1 [.ref h, .int i, .int n] w Q := by
  refine Ct.of (by decide) (Nat.le_of_ble_eq_true rfl) (fun _ => Nat.le_of_ble_eq_true rfl) (fun G hR => ?_)
  have hE := hR.1
  refine zr_iload_n hE eX10_hasStretch_0 rfl ?_
  refine zr_kif_lt hE eX10_hasStretch_1 (tgt := 30) (by decide) (fun zc1 zd1 => ?_) (fun zc1 zd1 => ?_)
  · refine zr_iconst hE eX10_hasStretch_30 (v := 0) (by decide) ?_
    refine hR.2.1 _ _ _ _ _ _ eX10_hasStretch_31 rfl rfl ?_
    exact zq hQ (zb0 (by simp_all [-Int32.not_le, -Int32.not_lt]))
  · refine zr_iload_n hE eX10_hasStretch_4 rfl ?_
    refine zr_aload_n hE eX10_hasStretch_5 rfl ?_
    refine zr_getI hE eX10_hasStretch_6 fX10_28 (hh).s0 rfl ?_
    refine zr_kicmp_gt hE eX10_hasStretch_9 (tgt := 30) (by decide) (fun zc9 zd9 => ?_) (fun zc9 zd9 => ?_)
    · refine zr_iconst hE eX10_hasStretch_30 (v := 0) (by decide) ?_
      refine hR.2.1 _ _ _ _ _ _ eX10_hasStretch_31 rfl rfl ?_
      exact zq hQ (zb0 (by simp_all [-Int32.not_le, -Int32.not_lt]))
    · refine zr_iload_n hE eX10_hasStretch_12 rfl ?_
      refine zr_kif_lt hE eX10_hasStretch_13 (tgt := 30) (by decide) (fun zc13 zd13 => ?_) (fun zc13 zd13 => ?_)
      · refine zr_iconst hE eX10_hasStretch_30 (v := 0) (by decide) ?_
        refine hR.2.1 _ _ _ _ _ _ eX10_hasStretch_31 rfl rfl ?_
        exact zq hQ (zb0 (by simp_all [-Int32.not_le, -Int32.not_lt]))
      · refine zr_iload_n hE eX10_hasStretch_16 rfl ?_
        refine zr_aload_n hE eX10_hasStretch_17 rfl ?_
        refine zr_getI hE eX10_hasStretch_18 fX10_28 (hh).s0 rfl ?_
        refine zr_iload_n hE eX10_hasStretch_21 rfl ?_
        refine zr_isub hE eX10_hasStretch_22 ?_
        refine zr_kicmp_gt hE eX10_hasStretch_23 (tgt := 30) (by decide) (fun zc23 zd23 => ?_) (fun zc23 zd23 => ?_)
        · refine zr_iconst hE eX10_hasStretch_30 (v := 0) (by decide) ?_
          refine hR.2.1 _ _ _ _ _ _ eX10_hasStretch_31 rfl rfl ?_
          exact zq hQ (zb0 (by simp_all [-Int32.not_le, -Int32.not_lt]))
        · refine zr_iconst hE eX10_hasStretch_26 (v := 1) (by decide) ?_
          refine zr_goto hE eX10_hasStretch_27 (tgt := 31) (by decide) ?_
          refine hR.2.1 _ _ _ _ _ _ eX10_hasStretch_31 rfl rfl ?_
          exact zq hQ (zb1 (by simp_all [-Int32.not_le, -Int32.not_lt]))

def sNar (so v : Int32) : Int32 := if so = 0 then v.toInt8.toInt32 else if so = 1 then v.toInt16.toInt32 else v
def sAt (w : ww) (h : Nat) (i : Int32) : Int32 := if 0 ≤ i ∧ i < w h 5 then w (h+1) i.toNatClampNeg else 1000
theorem vp_le100 {i n : Int32} (h0 : 0 ≤ i) (h1 : i < n) (h2 : n ≤ 100) : vp_in i 100 := by
  rw [vp_in_iff]
  rw [Int32.le_iff_toInt_le] at h0 h2
  rw [Int32.lt_iff_toInt_lt] at h1
  have e0 : (0 : Int32).toInt = 0 := by decide
  have e1 : (100 : Int32).toInt = 100 := by decide
  omega
set_option maxHeartbeats 4000000 in
theorem c_X10_set {h : Nat} {i v : Int32} {w : ww} {Q : Option Value → ww → Prop} (hh : zSf h) (hi : vp_in i 100) (hQ : Q none (wu w (h+1) i.toNatClampNeg (sNar (w h 4) v))) : Ct mX10_set 1 [.ref h, .int i, .int v] w Q := by
  refine Ct.of (by decide) (Nat.le_of_ble_eq_true rfl) (fun _ => Nat.le_of_ble_eq_true rfl) (fun G hR => ?_)
  have hE := hR.1
  refine zr_aload_n hE eX10_set_0 rfl ?_
  refine zr_getI hE eX10_set_1 fX10_25 (hh).s0 rfl ?_
  refine zr_if_ne hE eX10_set_4 (tgt := 18) (by decide) (fun zc4 => ?_) (fun zc4 => ?_)
  · refine zr_aload_n hE eX10_set_18 rfl ?_
    refine zr_getI hE eX10_set_19 fX10_25 (hh).s0 rfl ?_
    refine zr_iconst hE eX10_set_22 (v := 1) (by decide) ?_
    refine zr_icmp_ne hE eX10_set_23 (tgt := 37) (by decide) (fun zc23 => ?_) (fun zc23 => ?_)
    · refine zr_aload_n hE eX10_set_37 rfl ?_
      refine zr_getR hE eX10_set_38 fX10_9 (hh).s0 rfl ?_
      refine zr_iload_n hE eX10_set_41 rfl ?_
      refine zr_iload_n hE eX10_set_42 rfl ?_
      refine zr_iast hE eX10_set_43 (hh).s1 (by assumption) ?_
      refine hR.2.2.2 _ _ _ _ eX10_set_44 rfl ?_
      refine zqv hQ ?_
      simp_all [sNar]
    · refine zr_aload_n hE eX10_set_26 rfl ?_
      refine zr_getR hE eX10_set_27 fX10_9 (hh).s0 rfl ?_
      refine zr_iload_n hE eX10_set_30 rfl ?_
      refine zr_iload_n hE eX10_set_31 rfl ?_
      refine zr_i2s hE eX10_set_32 ?_
      refine zr_iast hE eX10_set_33 (hh).s1 (by assumption) ?_
      refine zr_goto hE eX10_set_34 (tgt := 44) (by decide) ?_
      refine hR.2.2.2 _ _ _ _ eX10_set_44 rfl ?_
      refine zqv hQ ?_
      simp_all [sNar]
  · refine zr_aload_n hE eX10_set_7 rfl ?_
    refine zr_getR hE eX10_set_8 fX10_9 (hh).s0 rfl ?_
    refine zr_iload_n hE eX10_set_11 rfl ?_
    refine zr_iload_n hE eX10_set_12 rfl ?_
    refine zr_i2b hE eX10_set_13 ?_
    refine zr_iast hE eX10_set_14 (hh).s1 (by assumption) ?_
    refine zr_goto hE eX10_set_15 (tgt := 44) (by decide) ?_
    refine hR.2.2.2 _ _ _ _ eX10_set_44 rfl ?_
    refine zqv hQ ?_
    simp_all [sNar]

set_option maxHeartbeats 4000000 in
theorem c_X10_at {h : Nat} {i : Int32} {w : ww} {Q : Option Value → ww → Prop} (hh : zSf h) (hz : w h 5 ≤ 100) (hQ : Q (some (.int (sAt w h i))) w) : Ct mX10_at 2 [.ref h, .int i] w Q := by
  refine Ct.of (by decide) (Nat.le_of_ble_eq_true rfl) (fun _ => Nat.le_of_ble_eq_true rfl) (fun G hR => ?_)
  have hE := hR.1
  refine zr_iload_n hE eX10_at_0 rfl ?_
  refine zr_kif_lt hE eX10_at_1 (tgt := 21) (by decide) (fun zc1 zd1 => ?_) (fun zc1 zd1 => ?_)
  · refine zr_sipush hE eX10_at_21 (v := 1000) (by decide) ?_
    refine hR.2.1 _ _ _ _ _ _ eX10_at_24 rfl rfl ?_
    exact zq hQ (by simp only [sAt]; simp_all [-Int32.not_le, -Int32.not_lt])
  · refine zr_iload_n hE eX10_at_4 rfl ?_
    refine zr_aload_n hE eX10_at_5 rfl ?_
    refine zr_getI hE eX10_at_6 fX10_28 (hh).s0 rfl ?_
    refine zr_kicmp_ge hE eX10_at_9 (tgt := 21) (by decide) (fun zc9 zd9 => ?_) (fun zc9 zd9 => ?_)
    · refine zr_sipush hE eX10_at_21 (v := 1000) (by decide) ?_
      refine hR.2.1 _ _ _ _ _ _ eX10_at_24 rfl rfl ?_
      exact zq hQ (by simp only [sAt]; simp_all [-Int32.not_le, -Int32.not_lt])
    · refine zr_aload_n hE eX10_at_12 rfl ?_
      refine zr_getR hE eX10_at_13 fX10_9 (hh).s0 rfl ?_
      refine zr_iload_n hE eX10_at_16 rfl ?_
      refine zr_iald hE eX10_at_17 (hh).s1 (vp_le100 (by assumption) (by assumption) hz) ?_
      refine zr_goto hE eX10_at_18 (tgt := 24) (by decide) ?_
      refine hR.2.1 _ _ _ _ _ _ eX10_at_24 rfl rfl ?_
      exact zq hQ (by simp only [sAt]; simp_all [-Int32.not_le, -Int32.not_lt])

set_option maxHeartbeats 4000000 in
theorem c_X10_digitAt {h : Nat} {i : Int32} {w : ww} {Q : Option Value → ww → Prop} (hh : zSf h) (hz : w h 5 ≤ 100) (hQ : Q (some (.int (sAt w h i - 48))) w) : Ct mX10_digitAt 3 [.ref h, .int i] w Q := by
  refine Ct.of (by decide) (Nat.le_of_ble_eq_true rfl) (fun _ => Nat.le_of_ble_eq_true rfl) (fun G hR => ?_)
  have hE := hR.1
  refine zr_aload_n hE eX10_digitAt_0 rfl ?_
  refine zr_iload_n hE eX10_digitAt_1 rfl ?_
  refine zr_callV1 hE eX10_digitAt_2 lX10_31 (hh).s0 rfl rfl (by decide) (Nat.le_of_ble_eq_true rfl) (c_X10_at hh hz ?_)
  refine zr_bipush hE eX10_digitAt_5 (v := 48) (by decide) ?_
  refine zr_isub hE eX10_digitAt_7 ?_
  refine hR.2.1 _ _ _ _ _ _ eX10_digitAt_8 rfl rfl ?_
  exact hQ

def fDg (v : Int32) : Bool := decide (48 ≤ v) && decide (v ≤ 57)
def fSgE (at0 : Int32 → Int32) (i s : Int32) : Int32 := if i < 0 then i else if at0 i = s then i + 1 else i ^^^ (-1)
def fDgE (at0 : Int32 → Int32) (i : Int32) : Int32 := if i < 0 then i else if fDg (at0 i) then i + 1 else i ^^^ (-1)
def fNuE (at0 : Int32 → Int32) (i : Int32) : Int32 := if fDgE at0 i < 0 then fDgE at0 i else if at0 i = 48 then fDgE at0 i else if fDg (at0 (fDgE at0 i)) then fDgE at0 i + 1 else fDgE at0 i
def fNuA (at0 : Int32 → Int32) (i : Int32) : Int32 := if fDg (at0 (i + 1)) then (at0 i - 48) * 10 + (at0 (i + 1) - 48) else at0 i - 48
def fCm (at0 : Int32 → Int32) (i : Int32) : Int32 := if at0 (i + 5) = 44 then i + 5 else i + 6
def fStE (at0 : Int32 → Int32) (i : Int32) : Int32 := if at0 i = 98 then fSgE at0 (fNuE at0 (fSgE at0 (fNuE at0 (fDgE at0 (fDgE at0 (fDgE at0 (i + 1))))) 44)) 59
  else if at0 i = 116 ∨ at0 i = 119 then fSgE at0 (fDgE at0 (i + 1)) 59 else if at0 i = 120 then fSgE at0 (i + 1) 59 else i ^^^ (-1)
set_option maxHeartbeats 4000000 in
theorem c_X10_isDigit {h : Nat} {i : Int32} {w : ww} {Q : Option Value → ww → Prop} (hh : zSf h) (hz : w h 5 ≤ 100) (hQ : Q (some (.int (bi (fDg (sAt w h i))))) w) : Ct mX10_isDigit 3 [.ref h, .int i] w Q := by
  refine Ct.of (by decide) (Nat.le_of_ble_eq_true rfl) (fun _ => Nat.le_of_ble_eq_true rfl) (fun G hR => ?_)
  have hE := hR.1
  refine zr_aload_n hE eX10_isDigit_0 rfl ?_
  refine zr_iload_n hE eX10_isDigit_1 rfl ?_
  refine zr_callV1 hE eX10_isDigit_2 lX10_31 (hh).s0 rfl rfl (by decide) (Nat.le_of_ble_eq_true rfl) (c_X10_at hh hz ?_)
  refine zr_bipush hE eX10_isDigit_5 (v := 48) (by decide) ?_
  refine zr_kicmp_lt hE eX10_isDigit_7 (tgt := 24) (by decide) (fun zc7 zd7 => ?_) (fun zc7 zd7 => ?_)
  · refine zr_iconst hE eX10_isDigit_24 (v := 0) (by decide) ?_
    refine hR.2.1 _ _ _ _ _ _ eX10_isDigit_25 rfl rfl ?_
    exact zq hQ (zb0 (by simp only [fDg]; simp_all [-Int32.not_le, -Int32.not_lt]))
  · refine zr_aload_n hE eX10_isDigit_10 rfl ?_
    refine zr_iload_n hE eX10_isDigit_11 rfl ?_
    refine zr_callV1 hE eX10_isDigit_12 lX10_31 (hh).s0 rfl rfl (by decide) (Nat.le_of_ble_eq_true rfl) (c_X10_at hh hz ?_)
    refine zr_bipush hE eX10_isDigit_15 (v := 57) (by decide) ?_
    refine zr_kicmp_gt hE eX10_isDigit_17 (tgt := 24) (by decide) (fun zc17 zd17 => ?_) (fun zc17 zd17 => ?_)
    · refine zr_iconst hE eX10_isDigit_24 (v := 0) (by decide) ?_
      refine hR.2.1 _ _ _ _ _ _ eX10_isDigit_25 rfl rfl ?_
      exact zq hQ (zb0 (by simp only [fDg]; simp_all [-Int32.not_le, -Int32.not_lt]))
    · refine zr_iconst hE eX10_isDigit_20 (v := 1) (by decide) ?_
      refine zr_goto hE eX10_isDigit_21 (tgt := 25) (by decide) ?_
      refine hR.2.1 _ _ _ _ _ _ eX10_isDigit_25 rfl rfl ?_
      exact zq hQ (zb1 (by simp only [fDg]; simp_all [-Int32.not_le, -Int32.not_lt]))

set_option maxHeartbeats 4000000 in
theorem c_X10_signEnd {h : Nat} {i s : Int32} {w : ww} {Q : Option Value → ww → Prop} (hh : zSf h) (hz : w h 5 ≤ 100) (hQ : Q (some (.int (fSgE (sAt w h) i s))) w) : Ct mX10_signEnd 3 [.ref h, .int i, .int s] w Q := by
  refine Ct.of (by decide) (Nat.le_of_ble_eq_true rfl) (fun _ => Nat.le_of_ble_eq_true rfl) (fun G hR => ?_)
  have hE := hR.1
  refine zr_iload_n hE eX10_signEnd_0 rfl ?_
  refine zr_kif_ge hE eX10_signEnd_1 (tgt := 6) (by decide) (fun zc1 zd1 => ?_) (fun zc1 zd1 => ?_)
  · refine zr_aload_n hE eX10_signEnd_6 rfl ?_
    refine zr_iload_n hE eX10_signEnd_7 rfl ?_
    refine zr_callV1 hE eX10_signEnd_8 lX10_31 (hh).s0 rfl rfl (by decide) (Nat.le_of_ble_eq_true rfl) (c_X10_at hh hz ?_)
    refine zr_iload_n hE eX10_signEnd_11 rfl ?_
    refine zr_icmp_ne hE eX10_signEnd_12 (tgt := 21) (by decide) (fun zc12 => ?_) (fun zc12 => ?_)
    · refine zr_iload_n hE eX10_signEnd_21 rfl ?_
      refine zr_iconst hE eX10_signEnd_22 (v := -1) (by decide) ?_
      refine zr_ixor hE eX10_signEnd_23 ?_
      refine hR.2.1 _ _ _ _ _ _ eX10_signEnd_24 rfl rfl ?_
      exact zq hQ (by simp only [fSgE]; simp_all [-Int32.not_le, -Int32.not_lt])
    · refine zr_iload_n hE eX10_signEnd_15 rfl ?_
      refine zr_iconst hE eX10_signEnd_16 (v := 1) (by decide) ?_
      refine zr_iadd hE eX10_signEnd_17 ?_
      refine zr_goto hE eX10_signEnd_18 (tgt := 24) (by decide) ?_
      refine hR.2.1 _ _ _ _ _ _ eX10_signEnd_24 rfl rfl ?_
      exact zq hQ (by simp only [fSgE]; simp_all [-Int32.not_le, -Int32.not_lt])
  · refine zr_iload_n hE eX10_signEnd_4 rfl ?_
    refine hR.2.1 _ _ _ _ _ _ eX10_signEnd_5 rfl rfl ?_
    exact zq hQ (by simp only [fSgE]; simp_all [-Int32.not_le, -Int32.not_lt])

set_option maxHeartbeats 4000000 in
theorem c_X10_digitEnd {h : Nat} {i : Int32} {w : ww} {Q : Option Value → ww → Prop} (hh : zSf h) (hz : w h 5 ≤ 100) (hQ : Q (some (.int (fDgE (sAt w h) i))) w) : Ct mX10_digitEnd 4 [.ref h, .int i] w Q := by
  refine Ct.of (by decide) (Nat.le_of_ble_eq_true rfl) (fun _ => Nat.le_of_ble_eq_true rfl) (fun G hR => ?_)
  have hE := hR.1
  refine zr_iload_n hE eX10_digitEnd_0 rfl ?_
  refine zr_kif_ge hE eX10_digitEnd_1 (tgt := 6) (by decide) (fun zc1 zd1 => ?_) (fun zc1 zd1 => ?_)
  · refine zr_aload_n hE eX10_digitEnd_6 rfl ?_
    refine zr_iload_n hE eX10_digitEnd_7 rfl ?_
    refine zr_callV1 hE eX10_digitEnd_8 lX10_48 (hh).s0 rfl rfl (by decide) (Nat.le_of_ble_eq_true rfl) (c_X10_isDigit hh hz ?_)
    refine zr_beq hE eX10_digitEnd_11 (tgt := 20) (by decide) (fun zc11 => ?_) (fun zc11 => ?_)
    · refine zr_iload_n hE eX10_digitEnd_20 rfl ?_
      refine zr_iconst hE eX10_digitEnd_21 (v := -1) (by decide) ?_
      refine zr_ixor hE eX10_digitEnd_22 ?_
      refine hR.2.1 _ _ _ _ _ _ eX10_digitEnd_23 rfl rfl ?_
      exact zq hQ (by simp only [fDgE]; simp_all [-Int32.not_le, -Int32.not_lt])
    · refine zr_iload_n hE eX10_digitEnd_14 rfl ?_
      refine zr_iconst hE eX10_digitEnd_15 (v := 1) (by decide) ?_
      refine zr_iadd hE eX10_digitEnd_16 ?_
      refine zr_goto hE eX10_digitEnd_17 (tgt := 23) (by decide) ?_
      refine hR.2.1 _ _ _ _ _ _ eX10_digitEnd_23 rfl rfl ?_
      exact zq hQ (by simp only [fDgE]; simp_all [-Int32.not_le, -Int32.not_lt])
  · refine zr_iload_n hE eX10_digitEnd_4 rfl ?_
    refine hR.2.1 _ _ _ _ _ _ eX10_digitEnd_5 rfl rfl ?_
    exact zq hQ (by simp only [fDgE]; simp_all [-Int32.not_le, -Int32.not_lt])

set_option maxHeartbeats 4000000 in
theorem c_X10_numberEnd {h : Nat} {i : Int32} {w : ww} {Q : Option Value → ww → Prop} (hh : zSf h) (hz : w h 5 ≤ 100) (hQ : Q (some (.int (fNuE (sAt w h) i))) w) : Ct mX10_numberEnd 5 [.ref h, .int i] w Q := by
  refine Ct.of (by decide) (Nat.le_of_ble_eq_true rfl) (fun _ => Nat.le_of_ble_eq_true rfl) (fun G hR => ?_)
  have hE := hR.1
  refine zr_aload_n hE eX10_numberEnd_0 rfl ?_
  refine zr_iload_n hE eX10_numberEnd_1 rfl ?_
  refine zr_callV1 hE eX10_numberEnd_2 lX10_38 (hh).s0 rfl rfl (by decide) (Nat.le_of_ble_eq_true rfl) (c_X10_digitEnd hh hz ?_)
  refine zr_istore_n hE eX10_numberEnd_5 (by decide) rfl ?_
  refine zr_iload_n hE eX10_numberEnd_6 rfl ?_
  refine zr_kif_lt hE eX10_numberEnd_7 (tgt := 20) (by decide) (fun zc7 zd7 => ?_) (fun zc7 zd7 => ?_)
  · refine zr_iload_n hE eX10_numberEnd_20 rfl ?_
    refine hR.2.1 _ _ _ _ _ _ eX10_numberEnd_21 rfl rfl ?_
    exact zq hQ (by simp only [fNuE]; simp_all [-Int32.not_le, -Int32.not_lt])
  · refine zr_aload_n hE eX10_numberEnd_10 rfl ?_
    refine zr_iload_n hE eX10_numberEnd_11 rfl ?_
    refine zr_callV1 hE eX10_numberEnd_12 lX10_31 (hh).s0 rfl rfl (by decide) (Nat.le_of_ble_eq_true rfl) (c_X10_at hh hz ?_)
    refine zr_bipush hE eX10_numberEnd_15 (v := 48) (by decide) ?_
    refine zr_icmp_ne hE eX10_numberEnd_17 (tgt := 22) (by decide) (fun zc17 => ?_) (fun zc17 => ?_)
    · refine zr_aload_n hE eX10_numberEnd_22 rfl ?_
      refine zr_iload_n hE eX10_numberEnd_23 rfl ?_
      refine zr_callV1 hE eX10_numberEnd_24 lX10_48 (hh).s0 rfl rfl (by decide) (Nat.le_of_ble_eq_true rfl) (c_X10_isDigit hh hz ?_)
      refine zr_beq hE eX10_numberEnd_27 (tgt := 36) (by decide) (fun zc27 => ?_) (fun zc27 => ?_)
      · refine zr_iload_n hE eX10_numberEnd_36 rfl ?_
        refine hR.2.1 _ _ _ _ _ _ eX10_numberEnd_37 rfl rfl ?_
        exact zq hQ (by simp only [fNuE]; simp_all [-Int32.not_le, -Int32.not_lt])
      · refine zr_iload_n hE eX10_numberEnd_30 rfl ?_
        refine zr_iconst hE eX10_numberEnd_31 (v := 1) (by decide) ?_
        refine zr_iadd hE eX10_numberEnd_32 ?_
        refine zr_goto hE eX10_numberEnd_33 (tgt := 37) (by decide) ?_
        refine hR.2.1 _ _ _ _ _ _ eX10_numberEnd_37 rfl rfl ?_
        exact zq hQ (by simp only [fNuE]; simp_all [-Int32.not_le, -Int32.not_lt])
    · refine zr_iload_n hE eX10_numberEnd_20 rfl ?_
      refine hR.2.1 _ _ _ _ _ _ eX10_numberEnd_21 rfl rfl ?_
      exact zq hQ (by simp only [fNuE]; simp_all [-Int32.not_le, -Int32.not_lt])

set_option maxHeartbeats 4000000 in
theorem c_X10_numberAt {h : Nat} {i : Int32} {w : ww} {Q : Option Value → ww → Prop} (hh : zSf h) (hz : w h 5 ≤ 100) (hQ : Q (some (.int (fNuA (sAt w h) i))) w) : Ct mX10_numberAt 6 [.ref h, .int i] w Q := by
  refine Ct.of (by decide) (Nat.le_of_ble_eq_true rfl) (fun _ => Nat.le_of_ble_eq_true rfl) (fun G hR => ?_)
  have hE := hR.1
  refine zr_aload_n hE eX10_numberAt_0 rfl ?_
  refine zr_iload_n hE eX10_numberAt_1 rfl ?_
  refine zr_iconst hE eX10_numberAt_2 (v := 1) (by decide) ?_
  refine zr_iadd hE eX10_numberAt_3 ?_
  refine zr_callV1 hE eX10_numberAt_4 lX10_48 (hh).s0 rfl rfl (by decide) (Nat.le_of_ble_eq_true rfl) (c_X10_isDigit hh hz ?_)
  refine zr_beq hE eX10_numberAt_7 (tgt := 29) (by decide) (fun zc7 => ?_) (fun zc7 => ?_)
  · refine zr_aload_n hE eX10_numberAt_29 rfl ?_
    refine zr_iload_n hE eX10_numberAt_30 rfl ?_
    refine zr_callV1 hE eX10_numberAt_31 lX10_52 (hh).s0 rfl rfl (by decide) (Nat.le_of_ble_eq_true rfl) (c_X10_digitAt hh hz ?_)
    refine hR.2.1 _ _ _ _ _ _ eX10_numberAt_34 rfl rfl ?_
    exact zq hQ (by simp only [fNuA]; simp_all [-Int32.not_le, -Int32.not_lt])
  · refine zr_aload_n hE eX10_numberAt_10 rfl ?_
    refine zr_iload_n hE eX10_numberAt_11 rfl ?_
    refine zr_callV1 hE eX10_numberAt_12 lX10_52 (hh).s0 rfl rfl (by decide) (Nat.le_of_ble_eq_true rfl) (c_X10_digitAt hh hz ?_)
    refine zr_bipush hE eX10_numberAt_15 (v := 10) (by decide) ?_
    refine zr_imul hE eX10_numberAt_17 ?_
    refine zr_aload_n hE eX10_numberAt_18 rfl ?_
    refine zr_iload_n hE eX10_numberAt_19 rfl ?_
    refine zr_iconst hE eX10_numberAt_20 (v := 1) (by decide) ?_
    refine zr_iadd hE eX10_numberAt_21 ?_
    refine zr_callV1 hE eX10_numberAt_22 lX10_52 (hh).s0 rfl rfl (by decide) (Nat.le_of_ble_eq_true rfl) (c_X10_digitAt hh hz ?_)
    refine zr_iadd hE eX10_numberAt_25 ?_
    refine zr_goto hE eX10_numberAt_26 (tgt := 34) (by decide) ?_
    refine hR.2.1 _ _ _ _ _ _ eX10_numberAt_34 rfl rfl ?_
    exact zq hQ (by simp only [fNuA]; simp_all [-Int32.not_le, -Int32.not_lt])

set_option maxHeartbeats 4000000 in
theorem c_X10_statementEnd {h : Nat} {i : Int32} {w : ww} {Q : Option Value → ww → Prop} (hh : zSf h) (hz : w h 5 ≤ 100) (hQ : Q (some (.int (fStE (sAt w h) i))) w) : Ct mX10_statementEnd 6 [.ref h, .int i] w Q := by
  refine Ct.of (by decide) (Nat.le_of_ble_eq_true rfl) (fun _ => Nat.le_of_ble_eq_true rfl) (fun G hR => ?_)
  have hE := hR.1
  refine zr_iload_n hE eX10_statementEnd_0 rfl ?_
  refine zr_iconst hE eX10_statementEnd_1 (v := 1) (by decide) ?_
  refine zr_iadd hE eX10_statementEnd_2 ?_
  refine zr_istore_n hE eX10_statementEnd_3 (by decide) rfl ?_
  refine zr_aload_n hE eX10_statementEnd_4 rfl ?_
  refine zr_iload_n hE eX10_statementEnd_5 rfl ?_
  refine zr_callV1 hE eX10_statementEnd_6 lX10_31 (hh).s0 rfl rfl (by decide) (Nat.le_of_ble_eq_true rfl) (c_X10_at hh hz ?_)
  refine zr_lswK hE eX10_statementEnd_9 (by decide) (98) (43) 52 (98) (by decide) (by decide) (by decide) (fun zk9_98 => ?_) (fun zk9_98 => ?_)
  · refine zr_aload_n hE eX10_statementEnd_52 rfl ?_
    refine zr_aload_n hE eX10_statementEnd_53 rfl ?_
    refine zr_aload_n hE eX10_statementEnd_54 rfl ?_
    refine zr_aload_n hE eX10_statementEnd_55 rfl ?_
    refine zr_aload_n hE eX10_statementEnd_56 rfl ?_
    refine zr_aload_n hE eX10_statementEnd_57 rfl ?_
    refine zr_aload_n hE eX10_statementEnd_58 rfl ?_
    refine zr_iload_n hE eX10_statementEnd_59 rfl ?_
    refine zr_callV1 hE eX10_statementEnd_60 lX10_38 (hh).s0 rfl rfl (by decide) (Nat.le_of_ble_eq_true rfl) (c_X10_digitEnd hh hz ?_)
    refine zr_callV1 hE eX10_statementEnd_63 lX10_38 (hh).s0 rfl rfl (by decide) (Nat.le_of_ble_eq_true rfl) (c_X10_digitEnd hh hz ?_)
    refine zr_callV1 hE eX10_statementEnd_66 lX10_38 (hh).s0 rfl rfl (by decide) (Nat.le_of_ble_eq_true rfl) (c_X10_digitEnd hh hz ?_)
    refine zr_callV1 hE eX10_statementEnd_69 lX10_41 (hh).s0 rfl rfl (by decide) (Nat.le_of_ble_eq_true rfl) (c_X10_numberEnd hh hz ?_)
    refine zr_bipush hE eX10_statementEnd_72 (v := 44) (by decide) ?_
    refine zr_callV2 hE eX10_statementEnd_74 lX10_44 (hh).s0 rfl rfl (by decide) (Nat.le_of_ble_eq_true rfl) (c_X10_signEnd hh hz ?_)
    refine zr_callV1 hE eX10_statementEnd_77 lX10_41 (hh).s0 rfl rfl (by decide) (Nat.le_of_ble_eq_true rfl) (c_X10_numberEnd hh hz ?_)
    refine zr_bipush hE eX10_statementEnd_80 (v := 59) (by decide) ?_
    refine zr_callV2 hE eX10_statementEnd_82 lX10_44 (hh).s0 rfl rfl (by decide) (Nat.le_of_ble_eq_true rfl) (c_X10_signEnd hh hz ?_)
    refine zr_istore_n hE eX10_statementEnd_85 (by decide) rfl ?_
    refine zr_goto hE eX10_statementEnd_86 (tgt := 119) (by decide) ?_
    refine zr_iload_n hE eX10_statementEnd_119 rfl ?_
    refine hR.2.1 _ _ _ _ _ _ eX10_statementEnd_120 rfl rfl ?_
    exact zq hQ (by simp only [fStE]; simp_all [-Int32.not_le, -Int32.not_lt])
  refine zr_lswK hE eX10_statementEnd_9 (by decide) (116) (80) 89 (116) (by decide) (by decide) (by decide) (fun zk9_116 => ?_) (fun zk9_116 => ?_)
  · refine zr_aload_n hE eX10_statementEnd_89 rfl ?_
    refine zr_aload_n hE eX10_statementEnd_90 rfl ?_
    refine zr_iload_n hE eX10_statementEnd_91 rfl ?_
    refine zr_callV1 hE eX10_statementEnd_92 lX10_38 (hh).s0 rfl rfl (by decide) (Nat.le_of_ble_eq_true rfl) (c_X10_digitEnd hh hz ?_)
    refine zr_bipush hE eX10_statementEnd_95 (v := 59) (by decide) ?_
    refine zr_callV2 hE eX10_statementEnd_97 lX10_44 (hh).s0 rfl rfl (by decide) (Nat.le_of_ble_eq_true rfl) (c_X10_signEnd hh hz ?_)
    refine zr_istore_n hE eX10_statementEnd_100 (by decide) rfl ?_
    refine zr_goto hE eX10_statementEnd_101 (tgt := 119) (by decide) ?_
    refine zr_iload_n hE eX10_statementEnd_119 rfl ?_
    refine hR.2.1 _ _ _ _ _ _ eX10_statementEnd_120 rfl rfl ?_
    exact zq hQ (by simp only [fStE]; simp_all [-Int32.not_le, -Int32.not_lt])
  refine zr_lswK hE eX10_statementEnd_9 (by decide) (119) (80) 89 (119) (by decide) (by decide) (by decide) (fun zk9_119 => ?_) (fun zk9_119 => ?_)
  · refine zr_aload_n hE eX10_statementEnd_89 rfl ?_
    refine zr_aload_n hE eX10_statementEnd_90 rfl ?_
    refine zr_iload_n hE eX10_statementEnd_91 rfl ?_
    refine zr_callV1 hE eX10_statementEnd_92 lX10_38 (hh).s0 rfl rfl (by decide) (Nat.le_of_ble_eq_true rfl) (c_X10_digitEnd hh hz ?_)
    refine zr_bipush hE eX10_statementEnd_95 (v := 59) (by decide) ?_
    refine zr_callV2 hE eX10_statementEnd_97 lX10_44 (hh).s0 rfl rfl (by decide) (Nat.le_of_ble_eq_true rfl) (c_X10_signEnd hh hz ?_)
    refine zr_istore_n hE eX10_statementEnd_100 (by decide) rfl ?_
    refine zr_goto hE eX10_statementEnd_101 (tgt := 119) (by decide) ?_
    refine zr_iload_n hE eX10_statementEnd_119 rfl ?_
    refine hR.2.1 _ _ _ _ _ _ eX10_statementEnd_120 rfl rfl ?_
    exact zq hQ (by simp only [fStE]; simp_all [-Int32.not_le, -Int32.not_lt])
  refine zr_lswK hE eX10_statementEnd_9 (by decide) (120) (95) 104 (120) (by decide) (by decide) (by decide) (fun zk9_120 => ?_) (fun zk9_120 => ?_)
  · refine zr_aload_n hE eX10_statementEnd_104 rfl ?_
    refine zr_iload_n hE eX10_statementEnd_105 rfl ?_
    refine zr_bipush hE eX10_statementEnd_106 (v := 59) (by decide) ?_
    refine zr_callV2 hE eX10_statementEnd_108 lX10_44 (hh).s0 rfl rfl (by decide) (Nat.le_of_ble_eq_true rfl) (c_X10_signEnd hh hz ?_)
    refine zr_istore_n hE eX10_statementEnd_111 (by decide) rfl ?_
    refine zr_goto hE eX10_statementEnd_112 (tgt := 119) (by decide) ?_
    refine zr_iload_n hE eX10_statementEnd_119 rfl ?_
    refine hR.2.1 _ _ _ _ _ _ eX10_statementEnd_120 rfl rfl ?_
    exact zq hQ (by simp only [fStE]; simp_all [-Int32.not_le, -Int32.not_lt])
  refine zr_lookup hE eX10_statementEnd_9 (by decide) (off := 106) (tgt := 115) ?_ (by decide) ?_
  · have zm98 := zne zk9_98 (v := 98) (by decide); have zm116 := zne zk9_116 (v := 116) (by decide); have zm119 := zne zk9_119 (v := 119) (by decide); have zm120 := zne zk9_120 (v := 120) (by decide); simp only [Op.lookupswitch.offset_cons, Op.lookupswitch.offset_nil]; rw [if_neg (fun q => zm98 q.symm)]; rw [if_neg (fun q => zm116 q.symm)]; rw [if_neg (fun q => zm119 q.symm)]; rw [if_neg (fun q => zm120 q.symm)]
  refine zr_iload_n hE eX10_statementEnd_115 rfl ?_
  refine zr_iconst hE eX10_statementEnd_116 (v := -1) (by decide) ?_
  refine zr_ixor hE eX10_statementEnd_117 ?_
  refine zr_istore_n hE eX10_statementEnd_118 (by decide) rfl ?_
  refine zr_iload_n hE eX10_statementEnd_119 rfl ?_
  refine hR.2.1 _ _ _ _ _ _ eX10_statementEnd_120 rfl rfl ?_
  exact zq hQ (by simp only [fStE]; simp_all [-Int32.not_le, -Int32.not_lt])

set_option maxHeartbeats 4000000 in
theorem c_X11_isWithin {v a b : Int32} {w : ww} {Q : Option Value → ww → Prop} (hQ : Q (some (.int (bi (decide (a ≤ v) && decide (v ≤ b))))) w) : Ct mX11_isWithin 1 [.int v, .int a, .int b] w Q := by
  refine Ct.of (by decide) (Nat.le_of_ble_eq_true rfl) (fun _ => Nat.le_of_ble_eq_true rfl) (fun G hR => ?_)
  have hE := hR.1
  refine zr_iload_n hE eX11_isWithin_0 rfl ?_
  refine zr_iload_n hE eX11_isWithin_1 rfl ?_
  refine zr_kicmp_lt hE eX11_isWithin_2 (tgt := 14) (by decide) (fun zc2 zd2 => ?_) (fun zc2 zd2 => ?_)
  · refine zr_iconst hE eX11_isWithin_14 (v := 0) (by decide) ?_
    refine hR.2.1 _ _ _ _ _ _ eX11_isWithin_15 rfl rfl ?_
    exact zq hQ (zb0 (by simp_all [-Int32.not_le, -Int32.not_lt]))
  · refine zr_iload_n hE eX11_isWithin_5 rfl ?_
    refine zr_iload_n hE eX11_isWithin_6 rfl ?_
    refine zr_kicmp_gt hE eX11_isWithin_7 (tgt := 14) (by decide) (fun zc7 zd7 => ?_) (fun zc7 zd7 => ?_)
    · refine zr_iconst hE eX11_isWithin_14 (v := 0) (by decide) ?_
      refine hR.2.1 _ _ _ _ _ _ eX11_isWithin_15 rfl rfl ?_
      exact zq hQ (zb0 (by simp_all [-Int32.not_le, -Int32.not_lt]))
    · refine zr_iconst hE eX11_isWithin_10 (v := 1) (by decide) ?_
      refine zr_goto hE eX11_isWithin_11 (tgt := 15) (by decide) ?_
      refine hR.2.1 _ _ _ _ _ _ eX11_isWithin_15 rfl rfl ?_
      exact zq hQ (zb1 (by simp_all [-Int32.not_le, -Int32.not_lt]))

def fIs (v a b : Int32) : Bool := decide (a ≤ v) && decide (v ≤ b)
set_option maxHeartbeats 4000000 in
theorem c_X11_isShelf {v : Int32} {w : ww} {Q : Option Value → ww → Prop} (hQ : Q (some (.int (bi (fIs v 0 7)))) w) : Ct mX11_isShelf 2 [.int v] w Q := by
  refine Ct.of (by decide) (Nat.le_of_ble_eq_true rfl) (fun _ => Nat.le_of_ble_eq_true rfl) (fun G hR => ?_)
  have hE := hR.1
  refine zr_iload_n hE eX11_isShelf_0 rfl ?_
  refine zr_iconst hE eX11_isShelf_1 (v := 0) (by decide) ?_
  refine zr_bipush hE eX11_isShelf_2 (v := 7) (by decide) ?_
  refine zr_callS3 hE eX11_isShelf_4 lX11_123 (by decide) (Nat.le_of_ble_eq_true rfl) (c_X11_isWithin ?_)
  refine hR.2.1 _ _ _ _ _ _ eX11_isShelf_7 rfl (narrow_bi _) ?_
  exact hQ

set_option maxHeartbeats 4000000 in
theorem c_X11_areHairs {v : Int32} {w : ww} {Q : Option Value → ww → Prop} (hQ : Q (some (.int (bi (fIs v 1 99)))) w) : Ct mX11_areHairs 2 [.int v] w Q := by
  refine Ct.of (by decide) (Nat.le_of_ble_eq_true rfl) (fun _ => Nat.le_of_ble_eq_true rfl) (fun G hR => ?_)
  have hE := hR.1
  refine zr_iload_n hE eX11_areHairs_0 rfl ?_
  refine zr_iconst hE eX11_areHairs_1 (v := 1) (by decide) ?_
  refine zr_bipush hE eX11_areHairs_2 (v := 99) (by decide) ?_
  refine zr_callS3 hE eX11_areHairs_4 lX11_123 (by decide) (Nat.le_of_ble_eq_true rfl) (c_X11_isWithin ?_)
  refine hR.2.1 _ _ _ _ _ _ eX11_areHairs_7 rfl (narrow_bi _) ?_
  exact hQ

set_option maxHeartbeats 4000000 in
theorem c_X11_isWarmth {v : Int32} {w : ww} {Q : Option Value → ww → Prop} (hQ : Q (some (.int (bi (fIs v 0 9)))) w) : Ct mX11_isWarmth 2 [.int v] w Q := by
  refine Ct.of (by decide) (Nat.le_of_ble_eq_true rfl) (fun _ => Nat.le_of_ble_eq_true rfl) (fun G hR => ?_)
  have hE := hR.1
  refine zr_iload_n hE eX11_isWarmth_0 rfl ?_
  refine zr_iconst hE eX11_isWarmth_1 (v := 0) (by decide) ?_
  refine zr_bipush hE eX11_isWarmth_2 (v := 9) (by decide) ?_
  refine zr_callS3 hE eX11_isWarmth_4 lX11_123 (by decide) (Nat.le_of_ble_eq_true rfl) (c_X11_isWithin ?_)
  refine hR.2.1 _ _ _ _ _ _ eX11_isWarmth_7 rfl (narrow_bi _) ?_
  exact hQ

set_option maxHeartbeats 4000000 in
theorem c_X11_areBowls {b : Int32} {w : ww} {Q : Option Value → ww → Prop}  (hQ : Q (some (.int (bi (decide (b &&& (((1 <<< (w 10 7 &&& 31)) - 1) ^^^ (-1)) = 0))))) w) : Ct mX11_areBowls 2 [.ref 0, .int b] w Q := by
  refine Ct.of (by decide) (Nat.le_of_ble_eq_true rfl) (fun _ => Nat.le_of_ble_eq_true rfl) (fun G hR => ?_)
  have hE := hR.1
  refine zr_iload_n hE eX11_areBowls_0 rfl ?_
  refine zr_aload_n hE eX11_areBowls_1 rfl ?_
  refine zr_getR hE eX11_areBowls_2 fX11_42 zs0 rfl ?_
  refine zr_callV0 hE eX11_areBowls_5 lX11_233 (zH10).s0 rfl rfl (by decide) (Nat.le_of_ble_eq_true rfl) (c_X5_all zH10 ?_)
  refine zr_iconst hE eX11_areBowls_8 (v := -1) (by decide) ?_
  refine zr_ixor hE eX11_areBowls_9 ?_
  refine zr_iand hE eX11_areBowls_10 ?_
  refine zr_if_ne hE eX11_areBowls_11 (tgt := 18) (by decide) (fun zc11 => ?_) (fun zc11 => ?_)
  · refine zr_iconst hE eX11_areBowls_18 (v := 0) (by decide) ?_
    refine hR.2.1 _ _ _ _ _ _ eX11_areBowls_19 rfl rfl ?_
    exact zq hQ (zb0 (by simp_all [-Int32.not_le, -Int32.not_lt]))
  · refine zr_iconst hE eX11_areBowls_14 (v := 1) (by decide) ?_
    refine zr_goto hE eX11_areBowls_15 (tgt := 19) (by decide) ?_
    refine hR.2.1 _ _ _ _ _ _ eX11_areBowls_19 rfl rfl ?_
    exact zq hQ (zb1 (by simp_all [-Int32.not_le, -Int32.not_lt]))

set_option maxHeartbeats 4000000 in
theorem c_X11_arePair {a b : Int32} {w : ww} {Q : Option Value → ww → Prop}  (hQ : Q (some (.int (bi ((decide (0 ≤ a) && decide (a < w 10 7)) && (decide (0 ≤ b) && decide (b < w 10 7)) && !decide (a = b))))) w) : Ct mX11_arePair 2 [.ref 0, .int a, .int b] w Q := by
  refine Ct.of (by decide) (Nat.le_of_ble_eq_true rfl) (fun _ => Nat.le_of_ble_eq_true rfl) (fun G hR => ?_)
  have hE := hR.1
  refine zr_aload_n hE eX11_arePair_0 rfl ?_
  refine zr_getR hE eX11_arePair_1 fX11_42 zs0 rfl ?_
  refine zr_iload_n hE eX11_arePair_4 rfl ?_
  refine zr_callV1 hE eX11_arePair_5 lX11_82 (zH10).s0 rfl rfl (by decide) (Nat.le_of_ble_eq_true rfl) (c_X5_has zH10 ?_)
  refine zr_beq hE eX11_arePair_8 (tgt := 31) (by decide) (fun zc8 => ?_) (fun zc8 => ?_)
  · refine zr_iconst hE eX11_arePair_31 (v := 0) (by decide) ?_
    refine hR.2.1 _ _ _ _ _ _ eX11_arePair_32 rfl rfl ?_
    exact zq hQ (zb0 (by simp_all [-Int32.not_le, -Int32.not_lt]))
  · refine zr_aload_n hE eX11_arePair_11 rfl ?_
    refine zr_getR hE eX11_arePair_12 fX11_42 zs0 rfl ?_
    refine zr_iload_n hE eX11_arePair_15 rfl ?_
    refine zr_callV1 hE eX11_arePair_16 lX11_82 (zH10).s0 rfl rfl (by decide) (Nat.le_of_ble_eq_true rfl) (c_X5_has zH10 ?_)
    refine zr_beq hE eX11_arePair_19 (tgt := 31) (by decide) (fun zc19 => ?_) (fun zc19 => ?_)
    · refine zr_iconst hE eX11_arePair_31 (v := 0) (by decide) ?_
      refine hR.2.1 _ _ _ _ _ _ eX11_arePair_32 rfl rfl ?_
      exact zq hQ (zb0 (by simp_all [-Int32.not_le, -Int32.not_lt]))
    · refine zr_iload_n hE eX11_arePair_22 rfl ?_
      refine zr_iload_n hE eX11_arePair_23 rfl ?_
      refine zr_icmp_eq hE eX11_arePair_24 (tgt := 31) (by decide) (fun zc24 => ?_) (fun zc24 => ?_)
      · refine zr_iconst hE eX11_arePair_31 (v := 0) (by decide) ?_
        refine hR.2.1 _ _ _ _ _ _ eX11_arePair_32 rfl rfl ?_
        exact zq hQ (zb0 (by simp_all [-Int32.not_le, -Int32.not_lt]))
      · refine zr_iconst hE eX11_arePair_27 (v := 1) (by decide) ?_
        refine zr_goto hE eX11_arePair_28 (tgt := 32) (by decide) ?_
        refine hR.2.1 _ _ _ _ _ _ eX11_arePair_32 rfl rfl ?_
        exact zq hQ (zb1 (by simp_all [-Int32.not_le, -Int32.not_lt]))

theorem fIs_vp {v : Int32} (h : fIs v 0 7 = true) : vp_in v 8 := by
  simp only [fIs, Bool.and_eq_true, decide_eq_true_eq] at h
  rw [vp_in_iff]
  obtain ⟨h0, h1⟩ := h
  rw [Int32.le_iff_toInt_le] at h0 h1
  have e0 : (0 : Int32).toInt = 0 := by decide
  have e1 : (7 : Int32).toInt = 7 := by decide
  omega
def fSh (d : Int32) : Nat := 41 + 2 * d.toNatClampNeg
theorem fSh_sf {d : Int32} (h : fIs d 0 7 = true) : zSf (fSh d) := ⟨_, vp_lt (fIs_vp h), rfl⟩
/-- why nothing can be taken from a shelf: want 1 a bowl, 2 a row -/
def rfS (w : ww) (d want : Int32) : Int32 := if fIs d 0 7 = false then -1 else if w (fSh d) 1 = 0 then -11 else if w (fSh d) 1 = want then 0 else -12
def rfB (w : ww) (d : Int32) : Int32 := if rfS w d 2 = 0 ∧ ¬ w (fSh d) 4 = 0 then -12 else rfS w d 2
theorem rfS_is {w : ww} {d want : Int32} (h : rfS w d want = 0) : fIs d 0 7 = true := by
  unfold rfS at h
  split at h
  · exact absurd h (by decide)
  · rename_i q; simpa using q
set_option maxHeartbeats 4000000 in
theorem c_X11_shelfRefusal {d k : Int32} {w : ww} {Q : Option Value → ww → Prop}  (hQ : Q (some (.int (rfS w d k))) w) : Ct mX11_shelfRefusal 3 [.ref 0, .int d, .int k] w Q := by
  refine Ct.of (by decide) (Nat.le_of_ble_eq_true rfl) (fun _ => Nat.le_of_ble_eq_true rfl) (fun G hR => ?_)
  have hE := hR.1
  refine zr_iload_n hE eX11_shelfRefusal_0 rfl ?_
  refine zr_callS1 hE eX11_shelfRefusal_1 lX11_117 (by decide) (Nat.le_of_ble_eq_true rfl) (c_X11_isShelf ?_)
  refine zr_bne hE eX11_shelfRefusal_4 (tgt := 9) (by decide) (fun zc4 => ?_) (fun zc4 => ?_)
  · refine zr_aload_n hE eX11_shelfRefusal_9 rfl ?_
    refine zr_getR hE eX11_shelfRefusal_10 fX11_61 zs0 rfl ?_
    refine zr_iload_n hE eX11_shelfRefusal_13 rfl ?_
    refine zr_shelves hE eX11_shelfRefusal_14 (fIs_vp (by assumption)) ?_
    refine zr_getI hE eX11_shelfRefusal_15 fX11_265 ((fSh_sf (by assumption))).s0 rfl ?_
    refine zr_if_ne hE eX11_shelfRefusal_18 (tgt := 24) (by decide) (fun zc18 => ?_) (fun zc18 => ?_)
    · refine zr_aload_n hE eX11_shelfRefusal_24 rfl ?_
      refine zr_getR hE eX11_shelfRefusal_25 fX11_61 zs0 rfl ?_
      refine zr_iload_n hE eX11_shelfRefusal_28 rfl ?_
      refine zr_shelves hE eX11_shelfRefusal_29 (fIs_vp (by assumption)) ?_
      refine zr_getI hE eX11_shelfRefusal_30 fX11_265 ((fSh_sf (by assumption))).s0 rfl ?_
      refine zr_iload_n hE eX11_shelfRefusal_33 rfl ?_
      refine zr_icmp_ne hE eX11_shelfRefusal_34 (tgt := 41) (by decide) (fun zc34 => ?_) (fun zc34 => ?_)
      · refine zr_bipush hE eX11_shelfRefusal_41 (v := -12) (by decide) ?_
        refine hR.2.1 _ _ _ _ _ _ eX11_shelfRefusal_43 rfl rfl ?_
        exact zq hQ (by simp only [rfS, fSh] at *; simp_all)
      · refine zr_iconst hE eX11_shelfRefusal_37 (v := 0) (by decide) ?_
        refine zr_goto hE eX11_shelfRefusal_38 (tgt := 43) (by decide) ?_
        refine hR.2.1 _ _ _ _ _ _ eX11_shelfRefusal_43 rfl rfl ?_
        exact zq hQ (by simp only [rfS, fSh] at *; simp_all)
    · refine zr_bipush hE eX11_shelfRefusal_21 (v := -11) (by decide) ?_
      refine hR.2.1 _ _ _ _ _ _ eX11_shelfRefusal_23 rfl rfl ?_
      exact zq hQ (by simp only [rfS, fSh] at *; simp_all)
  · refine zr_iconst hE eX11_shelfRefusal_7 (v := -1) (by decide) ?_
    refine hR.2.1 _ _ _ _ _ _ eX11_shelfRefusal_8 rfl rfl ?_
    exact zq hQ (by simp only [rfS, fSh] at *; simp_all)

set_option maxHeartbeats 4000000 in
theorem c_X11_rowRefusal {d : Int32} {w : ww} {Q : Option Value → ww → Prop}  (hQ : Q (some (.int (rfS w d 2))) w) : Ct mX11_rowRefusal 4 [.ref 0, .int d] w Q := by
  refine Ct.of (by decide) (Nat.le_of_ble_eq_true rfl) (fun _ => Nat.le_of_ble_eq_true rfl) (fun G hR => ?_)
  have hE := hR.1
  refine zr_aload_n hE eX11_rowRefusal_0 rfl ?_
  refine zr_iload_n hE eX11_rowRefusal_1 rfl ?_
  refine zr_iconst hE eX11_rowRefusal_2 (v := 2) (by decide) ?_
  refine zr_callV2 hE eX11_rowRefusal_3 lX11_296 zs0 rfl rfl (by decide) (Nat.le_of_ble_eq_true rfl) (c_X11_shelfRefusal ?_)
  refine hR.2.1 _ _ _ _ _ _ eX11_rowRefusal_6 rfl rfl ?_
  exact hQ

set_option maxHeartbeats 4000000 in
theorem c_X11_bowlRefusal {d : Int32} {w : ww} {Q : Option Value → ww → Prop}  (hQ : Q (some (.int (rfS w d 1))) w) : Ct mX11_bowlRefusal 4 [.ref 0, .int d] w Q := by
  refine Ct.of (by decide) (Nat.le_of_ble_eq_true rfl) (fun _ => Nat.le_of_ble_eq_true rfl) (fun G hR => ?_)
  have hE := hR.1
  refine zr_aload_n hE eX11_bowlRefusal_0 rfl ?_
  refine zr_iload_n hE eX11_bowlRefusal_1 rfl ?_
  refine zr_iconst hE eX11_bowlRefusal_2 (v := 1) (by decide) ?_
  refine zr_callV2 hE eX11_bowlRefusal_3 lX11_296 zs0 rfl rfl (by decide) (Nat.le_of_ble_eq_true rfl) (c_X11_shelfRefusal ?_)
  refine hR.2.1 _ _ _ _ _ _ eX11_bowlRefusal_6 rfl rfl ?_
  exact hQ

set_option maxHeartbeats 4000000 in
theorem c_X11_bytesRefusal {d : Int32} {w : ww} {Q : Option Value → ww → Prop}  (hQ : Q (some (.int (rfB w d))) w) : Ct mX11_bytesRefusal 4 [.ref 0, .int d] w Q := by
  refine Ct.of (by decide) (Nat.le_of_ble_eq_true rfl) (fun _ => Nat.le_of_ble_eq_true rfl) (fun G hR => ?_)
  have hE := hR.1
  refine zr_aload_n hE eX11_bytesRefusal_0 rfl ?_
  refine zr_iload_n hE eX11_bytesRefusal_1 rfl ?_
  refine zr_iconst hE eX11_bytesRefusal_2 (v := 2) (by decide) ?_
  refine zr_callV2 hE eX11_bytesRefusal_3 lX11_296 zs0 rfl rfl (by decide) (Nat.le_of_ble_eq_true rfl) (c_X11_shelfRefusal ?_)
  refine zr_istore_n hE eX11_bytesRefusal_6 (by decide) rfl ?_
  refine zr_iload_n hE eX11_bytesRefusal_7 rfl ?_
  refine zr_if_ne hE eX11_bytesRefusal_8 (tgt := 26) (by decide) (fun zc8 => ?_) (fun zc8 => ?_)
  · refine zr_iload_n hE eX11_bytesRefusal_26 rfl ?_
    refine hR.2.1 _ _ _ _ _ _ eX11_bytesRefusal_27 rfl rfl ?_
    exact zq hQ (by simp only [rfB, fSh] at *; simp_all)
  · refine zr_aload_n hE eX11_bytesRefusal_11 rfl ?_
    refine zr_getR hE eX11_bytesRefusal_12 fX11_61 zs0 rfl ?_
    refine zr_iload_n hE eX11_bytesRefusal_15 rfl ?_
    refine zr_shelves hE eX11_bytesRefusal_16 (fIs_vp (rfS_is (by assumption))) ?_
    refine zr_getI hE eX11_bytesRefusal_17 fX11_273 ((fSh_sf (rfS_is (by assumption)))).s0 rfl ?_
    refine zr_if_eq hE eX11_bytesRefusal_20 (tgt := 26) (by decide) (fun zc20 => ?_) (fun zc20 => ?_)
    · refine zr_iload_n hE eX11_bytesRefusal_26 rfl ?_
      refine hR.2.1 _ _ _ _ _ _ eX11_bytesRefusal_27 rfl rfl ?_
      exact zq hQ (by simp only [rfB, fSh] at *; simp_all)
    · refine zr_bipush hE eX11_bytesRefusal_23 (v := -12) (by decide) ?_
      refine hR.2.1 _ _ _ _ _ _ eX11_bytesRefusal_25 rfl rfl ?_
      exact zq hQ (by simp only [rfB, fSh] at *; simp_all)

