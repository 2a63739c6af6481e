/-! The reference's plain methods. -/
theorem lg_ge (x y : Int64) : (0 ≤ lg_cmp x y) ↔ y ≤ x := lg_cmp_ge x y
theorem il_le (a b : Int32) : a.toInt64 ≤ b.toInt64 ↔ a ≤ b := by
  rw [Int64.le_iff_toInt_le, Int32.le_iff_toInt_le, Int32.toInt_toInt64, Int32.toInt_toInt64]
def mB (w : ww) : zBv := fun k b => w 58 (2 + 5 * b + k)
set_option maxHeartbeats 4000000 in
theorem c_X12_isIn {v a b : Int64} {w : ww} {Q : Option Value → ww → Prop} (hQ : Q (some (.int (bi (decide (a ≤ v) && decide (v ≤ b))))) w) : Ct mX12_isIn 1 [.long v, .long a, .long b] w Q := by
  refine Ct.of (by decide) (Nat.le_of_ble_eq_true rfl) (fun _ => Nat.le_of_ble_eq_true rfl) (fun G hR => ?_)
  have hE := hR.1
  refine zr_lload_n hE eX12_isIn_0 rfl ?_
  refine zr_lload_n hE eX12_isIn_1 rfl ?_
  refine zr_lcmp hE eX12_isIn_2 ?_
  refine zr_kif_lt hE eX12_isIn_3 (tgt := 17) (by decide) (fun zc3 zd3 => ?_) (fun zc3 zd3 => ?_)
  · refine zr_iconst hE eX12_isIn_17 (v := 0) (by decide) ?_
    refine hR.2.1 _ _ _ _ _ _ eX12_isIn_18 rfl rfl ?_
    exact zq hQ (zb0 (by simp only [lg_cmp_ge, lg_cmp_le, lg_cmp_lt, lg_cmp_gt] at *; simp_all [-Int64.not_le, -Int64.not_lt]))
  · refine zr_lload_n hE eX12_isIn_6 rfl ?_
    refine zr_lload hE eX12_isIn_7 rfl ?_
    refine zr_lcmp hE eX12_isIn_9 ?_
    refine zr_kif_gt hE eX12_isIn_10 (tgt := 17) (by decide) (fun zc10 zd10 => ?_) (fun zc10 zd10 => ?_)
    · refine zr_iconst hE eX12_isIn_17 (v := 0) (by decide) ?_
      refine hR.2.1 _ _ _ _ _ _ eX12_isIn_18 rfl rfl ?_
      exact zq hQ (zb0 (by simp only [lg_cmp_ge, lg_cmp_le, lg_cmp_lt, lg_cmp_gt] at *; simp_all [-Int64.not_le, -Int64.not_lt]))
    · refine zr_iconst hE eX12_isIn_13 (v := 1) (by decide) ?_
      refine zr_goto hE eX12_isIn_14 (tgt := 18) (by decide) ?_
      refine hR.2.1 _ _ _ _ _ _ eX12_isIn_18 rfl rfl ?_
      exact zq hQ (zb1 (by simp only [lg_cmp_ge, lg_cmp_le, lg_cmp_lt, lg_cmp_gt] at *; simp_all [-Int64.not_le, -Int64.not_lt]))

theorem fIs64 {v a b : Int32} {a6 b6 : Int64} (ha : a.toInt64 = a6) (hb : b.toInt64 = b6) : (decide (a6 ≤ v.toInt64) && decide (v.toInt64 ≤ b6)) = fIs v a b := by
  subst ha; subst hb
  simp only [fIs, il_le]
theorem c_X12_isIn32 {v : Int32} (a b : Int32) {a6 b6 : Int64} {w : ww} {Q : Option Value → ww → Prop} (ha : a.toInt64 = a6) (hb : b.toInt64 = b6) (hQ : Q (some (.int (bi (fIs v a b)))) w) : Ct mX12_isIn 1 [.long v.toInt64, .long a6, .long b6] w Q :=
  c_X12_isIn (by rw [fIs64 ha hb]; exact hQ)
set_option maxHeartbeats 4000000 in
theorem c_X12_isShelf {v : Int32} {w : ww} {Q : Option Value → ww → Prop} (hQ : Q (some (.int (bi (fIs v 0 7)))) w) : Ct mX12_isShelf 2 [.int v] w Q := by
  refine Ct.of (by decide) (Nat.le_of_ble_eq_true rfl) (fun _ => Nat.le_of_ble_eq_true rfl) (fun G hR => ?_)
  have hE := hR.1
  refine zr_iload_n hE eX12_isShelf_0 rfl ?_
  refine zr_i2l hE eX12_isShelf_1 ?_
  refine zr_lconst hE eX12_isShelf_2 (v := 0) (by decide) ?_
  refine zr_ldc2 hE eX12_isShelf_3 hX12_53 ?_
  refine zr_callS3 hE eX12_isShelf_6 lX12_55 (by decide) (Nat.le_of_ble_eq_true rfl) (c_X12_isIn32 0 7 (by decide) (by decide) ?_)
  refine hR.2.1 _ _ _ _ _ _ eX12_isShelf_9 rfl (narrow_bi _) ?_
  exact hQ

set_option maxHeartbeats 4000000 in
theorem c_X12_isBowl {b : Int32} {w : ww} {Q : Option Value → ww → Prop} (hQ : Q (some (.int (bi (fIs b 0 (w 58 0 - 1))))) w) : Ct mX12_isBowl 2 [.ref 57, .int b] w Q := by
  refine Ct.of (by decide) (Nat.le_of_ble_eq_true rfl) (fun _ => Nat.le_of_ble_eq_true rfl) (fun G hR => ?_)
  have hE := hR.1
  refine zr_iload_n hE eX12_isBowl_0 rfl ?_
  refine zr_i2l hE eX12_isBowl_1 ?_
  refine zr_lconst hE eX12_isBowl_2 (v := 0) (by decide) ?_
  refine zr_aload_n hE eX12_isBowl_3 rfl ?_
  refine zr_getR hE eX12_isBowl_4 fX12_9 zs57 rfl ?_
  refine zr_iconst hE eX12_isBowl_7 (v := 0) (by decide) ?_
  refine zr_iald hE eX12_isBowl_8 zs58 (by unfold vp_in; decide) ?_
  refine zr_iconst hE eX12_isBowl_9 (v := 1) (by decide) ?_
  refine zr_isub hE eX12_isBowl_10 ?_
  refine zr_i2l hE eX12_isBowl_11 ?_
  refine zr_callS3 hE eX12_isBowl_12 lX12_55 (by decide) (Nat.le_of_ble_eq_true rfl) (c_X12_isIn32 0 (w 58 0 - 1) (by decide) rfl ?_)
  refine hR.2.1 _ _ _ _ _ _ eX12_isBowl_15 rfl (narrow_bi _) ?_
  exact hQ

theorem mix {b k : Int32} {j : Nat} (hb : vp_in b 10) (hk : k = nI j) (h5 : j < 5) : vp_in (2 + 5 * b + k) 52 ∧ (2 + 5 * b + k).toNatClampNeg = 2 + 5 * b.toNatClampNeg + j := by
  obtain ⟨i, hi, rfl⟩ := vp_in_of hb (by decide)
  have e : (2 : Int32) + 5 * nI i + k = nI (2 + 5 * i + j) := by
    rw [hk, show (2 : Int32) = nI 2 from rfl, show (5 : Int32) = nI 5 from rfl]
    have e5 : nI 5 * nI i = nI (5 * i) := by simp only [nI]; exact (Int32.ofNat_mul _ _).symm
    rw [e5, nI_add, nI_add]
  rw [e, nI_clamp (by omega), nI_clamp (by omega)]
  exact ⟨vp_in_nI (by omega) (by decide), rfl⟩
set_option maxHeartbeats 4000000 in
theorem c_X12_get {b k : Int32} (j : Nat) {w : ww} {Q : Option Value → ww → Prop} (hb : vp_in b 10) (hk : k = nI j) (h5 : j < 5) (hQ : Q (some (.int (mB w j b.toNatClampNeg))) w) : Ct mX12_get 1 [.ref 57, .int b, .int k] w Q := by
  refine Ct.of (by decide) (Nat.le_of_ble_eq_true rfl) (fun _ => Nat.le_of_ble_eq_true rfl) (fun G hR => ?_)
  have hE := hR.1
  refine zr_aload_n hE eX12_get_0 rfl ?_
  refine zr_getR hE eX12_get_1 fX12_9 zs57 rfl ?_
  refine zr_iconst hE eX12_get_4 (v := 2) (by decide) ?_
  refine zr_iconst hE eX12_get_5 (v := 5) (by decide) ?_
  refine zr_iload_n hE eX12_get_6 rfl ?_
  refine zr_imul hE eX12_get_7 ?_
  refine zr_iadd hE eX12_get_8 ?_
  refine zr_iload_n hE eX12_get_9 rfl ?_
  refine zr_iadd hE eX12_get_10 ?_
  refine zr_iald hE eX12_get_11 zs58 (mix hb hk h5).1 ?_
  refine hR.2.1 _ _ _ _ _ _ eX12_get_12 rfl rfl ?_
  exact zq hQ (by rw [(mix hb hk h5).2]; rfl)

set_option maxHeartbeats 4000000 in
theorem c_X12_puts {b k v : Int32} (j : Nat) {w : ww} {Q : Option Value → ww → Prop} (hb : vp_in b 10) (hk : k = nI j) (h5 : j < 5) (hQ : Q none (wu w 58 (2 + 5 * b.toNatClampNeg + j) v)) : Ct mX12_puts 1 [.ref 57, .int b, .int k, .int v] w Q := by
  refine Ct.of (by decide) (Nat.le_of_ble_eq_true rfl) (fun _ => Nat.le_of_ble_eq_true rfl) (fun G hR => ?_)
  have hE := hR.1
  refine zr_aload_n hE eX12_puts_0 rfl ?_
  refine zr_getR hE eX12_puts_1 fX12_9 zs57 rfl ?_
  refine zr_iconst hE eX12_puts_4 (v := 2) (by decide) ?_
  refine zr_iconst hE eX12_puts_5 (v := 5) (by decide) ?_
  refine zr_iload_n hE eX12_puts_6 rfl ?_
  refine zr_imul hE eX12_puts_7 ?_
  refine zr_iadd hE eX12_puts_8 ?_
  refine zr_iload_n hE eX12_puts_9 rfl ?_
  refine zr_iadd hE eX12_puts_10 ?_
  refine zr_iload_n hE eX12_puts_11 rfl ?_
  refine zr_iast hE eX12_puts_12 zs58 (mix hb hk h5).1 ?_
  refine hR.2.2.2 _ _ _ _ eX12_puts_13 rfl ?_
  refine zqv hQ ?_
  rw [(mix hb hk h5).2]

set_option maxHeartbeats 4000000 in
theorem c_X12_everything  {w : ww} {Q : Option Value → ww → Prop} (hQ : Q (some (.int ((1 <<< (w 58 0 &&& 31)) - 1))) w) : Ct mX12_everything 1 [.ref 57] w Q := by
  refine Ct.of (by decide) (Nat.le_of_ble_eq_true rfl) (fun _ => Nat.le_of_ble_eq_true rfl) (fun G hR => ?_)
  have hE := hR.1
  refine zr_iconst hE eX12_everything_0 (v := 1) (by decide) ?_
  refine zr_aload_n hE eX12_everything_1 rfl ?_
  refine zr_getR hE eX12_everything_2 fX12_9 zs57 rfl ?_
  refine zr_iconst hE eX12_everything_5 (v := 0) (by decide) ?_
  refine zr_iald hE eX12_everything_6 zs58 (by unfold vp_in; decide) ?_
  refine zr_ishl hE eX12_everything_7 ?_
  refine zr_iconst hE eX12_everything_8 (v := 1) (by decide) ?_
  refine zr_isub hE eX12_everything_9 ?_
  refine hR.2.1 _ _ _ _ _ _ eX12_everything_10 rfl rfl ?_
  exact hQ

set_option maxHeartbeats 4000000 in
theorem c_X12_areBowls {b : Int32} {w : ww} {Q : Option Value → ww → Prop} (hQ : Q (some (.int (bi (fIs b 0 ((1 <<< (w 58 0 &&& 31)) - 1))))) w) : Ct mX12_areBowls 2 [.ref 57, .int b] w Q := by
  refine Ct.of (by decide) (Nat.le_of_ble_eq_true rfl) (fun _ => Nat.le_of_ble_eq_true rfl) (fun G hR => ?_)
  have hE := hR.1
  refine zr_iload_n hE eX12_areBowls_0 rfl ?_
  refine zr_kif_lt hE eX12_areBowls_1 (tgt := 16) (by decide) (fun zc1 zd1 => ?_) (fun zc1 zd1 => ?_)
  · refine zr_iconst hE eX12_areBowls_16 (v := 0) (by decide) ?_
    refine hR.2.1 _ _ _ _ _ _ eX12_areBowls_17 rfl rfl ?_
    exact zq hQ (zb0 (by simp only [fIs]; simp_all [-Int32.not_le, -Int32.not_lt]))
  · refine zr_iload_n hE eX12_areBowls_4 rfl ?_
    refine zr_aload_n hE eX12_areBowls_5 rfl ?_
    refine zr_callV0 hE eX12_areBowls_6 lX12_59 zs57 rfl rfl (by decide) (Nat.le_of_ble_eq_true rfl) (c_X12_everything ?_)
    refine zr_kicmp_gt hE eX12_areBowls_9 (tgt := 16) (by decide) (fun zc9 zd9 => ?_) (fun zc9 zd9 => ?_)
    · refine zr_iconst hE eX12_areBowls_16 (v := 0) (by decide) ?_
      refine hR.2.1 _ _ _ _ _ _ eX12_areBowls_17 rfl rfl ?_
      exact zq hQ (zb0 (by simp only [fIs]; simp_all [-Int32.not_le, -Int32.not_lt]))
    · refine zr_iconst hE eX12_areBowls_12 (v := 1) (by decide) ?_
      refine zr_goto hE eX12_areBowls_13 (tgt := 17) (by decide) ?_
      refine hR.2.1 _ _ _ _ _ _ eX12_areBowls_17 rfl rfl ?_
      exact zq hQ (zb1 (by simp only [fIs]; simp_all [-Int32.not_le, -Int32.not_lt]))

set_option maxHeartbeats 4000000 in
theorem c_X12_turned {b : Int32} {w : ww} {Q : Option Value → ww → Prop} (hb : vp_in b 10) (hQ : Q (some (.int (if mB w 2 b.toNatClampNeg = 1 then mB w 1 b.toNatClampNeg else 0))) w) : Ct mX12_turned 2 [.ref 57, .int b] w Q := by
  refine Ct.of (by decide) (Nat.le_of_ble_eq_true rfl) (fun _ => Nat.le_of_ble_eq_true rfl) (fun G hR => ?_)
  have hE := hR.1
  refine zr_aload_n hE eX12_turned_0 rfl ?_
  refine zr_iload_n hE eX12_turned_1 rfl ?_
  refine zr_iconst hE eX12_turned_2 (v := 2) (by decide) ?_
  refine zr_callV2 hE eX12_turned_3 lX12_63 zs57 rfl rfl (by decide) (Nat.le_of_ble_eq_true rfl) (c_X12_get 2 (by assumption) rfl (by decide) ?_)
  refine zr_iconst hE eX12_turned_6 (v := 1) (by decide) ?_
  refine zr_icmp_ne hE eX12_turned_7 (tgt := 19) (by decide) (fun zc7 => ?_) (fun zc7 => ?_)
  · refine zr_iconst hE eX12_turned_19 (v := 0) (by decide) ?_
    refine hR.2.1 _ _ _ _ _ _ eX12_turned_20 rfl rfl ?_
    exact zq hQ (by simp_all [-Int32.not_le, -Int32.not_lt])
  · refine zr_aload_n hE eX12_turned_10 rfl ?_
    refine zr_iload_n hE eX12_turned_11 rfl ?_
    refine zr_iconst hE eX12_turned_12 (v := 1) (by decide) ?_
    refine zr_callV2 hE eX12_turned_13 lX12_63 zs57 rfl rfl (by decide) (Nat.le_of_ble_eq_true rfl) (c_X12_get 1 (by assumption) rfl (by decide) ?_)
    refine zr_goto hE eX12_turned_16 (tgt := 20) (by decide) ?_
    refine hR.2.1 _ _ _ _ _ _ eX12_turned_20 rfl rfl ?_
    exact zq hQ (by simp_all [-Int32.not_le, -Int32.not_lt])

theorem tn1 : (1 : Int32).toNatClampNeg = 1 := by decide
theorem tn2 : (2 : Int32).toNatClampNeg = 2 := by decide
theorem tn3 : (3 : Int32).toNatClampNeg = 3 := by decide
theorem tn4 : (4 : Int32).toNatClampNeg = 4 := by decide
theorem tn5 : (5 : Int32).toNatClampNeg = 5 := by decide
theorem tn6 : (6 : Int32).toNatClampNeg = 6 := by decide
theorem tn7 : (7 : Int32).toNatClampNeg = 7 := by decide
theorem tn0 : (0 : Int32).toNatClampNeg = 0 := by decide
set_option maxHeartbeats 4000000 in
theorem c_X12_outsideBy {b s : Int32} {w : ww} {Q : Option Value → ww → Prop} (hb : vp_in b 10) (hkb : vp_in (mB w 0 b.toNatClampNeg) 8) (hQ : Q (some (.int (fOut (mB w) b.toNatClampNeg s))) w) : Ct mX12_outsideBy 3 [.ref 57, .int b, .int s] w Q := by
  refine Ct.of (by decide) (Nat.le_of_ble_eq_true rfl) (fun _ => Nat.le_of_ble_eq_true rfl) (fun G hR => ?_)
  have hE := hR.1
  refine zr_aload_n hE eX12_outsideBy_0 rfl ?_
  refine zr_iload_n hE eX12_outsideBy_1 rfl ?_
  refine zr_iconst hE eX12_outsideBy_2 (v := 1) (by decide) ?_
  refine zr_callV2 hE eX12_outsideBy_3 lX12_63 zs57 rfl rfl (by decide) (Nat.le_of_ble_eq_true rfl) (c_X12_get 1 (by assumption) rfl (by decide) ?_)
  refine zr_istore_n hE eX12_outsideBy_6 (by decide) rfl ?_
  refine zr_aload_n hE eX12_outsideBy_7 rfl ?_
  refine zr_iload_n hE eX12_outsideBy_8 rfl ?_
  refine zr_iconst hE eX12_outsideBy_9 (v := 0) (by decide) ?_
  refine zr_callV2 hE eX12_outsideBy_10 lX12_63 zs57 rfl rfl (by decide) (Nat.le_of_ble_eq_true rfl) (c_X12_get 0 (by assumption) rfl (by decide) ?_)
  refine zr_tswK hE eX12_outsideBy_13 (1) (43) 56 (1) (by decide) (by decide) (by decide) (by decide) (by decide) (fun zk13_1 => ?_) (fun zk13_1 => ?_)
  · refine zr_iload_n hE eX12_outsideBy_56 rfl ?_
    refine zr_aload_n hE eX12_outsideBy_57 rfl ?_
    refine zr_iload_n hE eX12_outsideBy_58 rfl ?_
    refine zr_callV1 hE eX12_outsideBy_59 lX12_67 zs57 rfl rfl (by decide) (Nat.le_of_ble_eq_true rfl) (c_X12_turned hb ?_)
    refine zr_iadd hE eX12_outsideBy_62 ?_
    refine hR.2.1 _ _ _ _ _ _ eX12_outsideBy_63 rfl rfl ?_
    exact zq hQ (by simp only [fOut, outK]; rcases vp8 hkb with q | q | q | q | q | q | q | q <;> simp only [q, tn0, tn1, tn2, tn3, tn4, tn5, tn6, tn7] at * <;> first | rfl | (simp only [if_true, if_false, reduceIte, *]; done) | (simp_all [-Int32.not_le, -Int32.not_lt]; done) | (exfalso; revert q; simp_all; done) | contradiction)
  refine zr_tswK hE eX12_outsideBy_13 (2) (51) 64 (2) (by decide) (by decide) (by decide) (by decide) (by decide) (fun zk13_2 => ?_) (fun zk13_2 => ?_)
  · refine zr_iload_n hE eX12_outsideBy_64 rfl ?_
    refine zr_iload_n hE eX12_outsideBy_65 rfl ?_
    refine zr_isub hE eX12_outsideBy_66 ?_
    refine zr_iconst hE eX12_outsideBy_67 (v := 1) (by decide) ?_
    refine zr_kicmp_ge hE eX12_outsideBy_68 (tgt := 75) (by decide) (fun zc68 zd68 => ?_) (fun zc68 zd68 => ?_)
    · refine zr_iload_n hE eX12_outsideBy_75 rfl ?_
      refine zr_iload_n hE eX12_outsideBy_76 rfl ?_
      refine zr_isub hE eX12_outsideBy_77 ?_
      refine hR.2.1 _ _ _ _ _ _ eX12_outsideBy_78 rfl rfl ?_
      exact zq hQ (by simp only [fOut, outK]; rcases vp8 hkb with q | q | q | q | q | q | q | q <;> simp only [q, tn0, tn1, tn2, tn3, tn4, tn5, tn6, tn7] at * <;> first | rfl | (simp only [if_true, if_false, reduceIte, *]; done) | (simp_all [-Int32.not_le, -Int32.not_lt]; done) | (exfalso; revert q; simp_all; done) | contradiction)
    · refine zr_iconst hE eX12_outsideBy_71 (v := 1) (by decide) ?_
      refine zr_goto hE eX12_outsideBy_72 (tgt := 78) (by decide) ?_
      refine hR.2.1 _ _ _ _ _ _ eX12_outsideBy_78 rfl rfl ?_
      exact zq hQ (by simp only [fOut, outK]; rcases vp8 hkb with q | q | q | q | q | q | q | q <;> simp only [q, tn0, tn1, tn2, tn3, tn4, tn5, tn6, tn7] at * <;> first | rfl | (simp only [if_true, if_false, reduceIte, *]; done) | (simp_all [-Int32.not_le, -Int32.not_lt]; done) | (exfalso; revert q; simp_all; done) | contradiction)
  refine zr_tswK hE eX12_outsideBy_13 (3) (80) 93 (3) (by decide) (by decide) (by decide) (by decide) (by decide) (fun zk13_3 => ?_) (fun zk13_3 => ?_)
  · refine zr_iload_n hE eX12_outsideBy_93 rfl ?_
    refine hR.2.1 _ _ _ _ _ _ eX12_outsideBy_94 rfl rfl ?_
    exact zq hQ (by simp only [fOut, outK]; rcases vp8 hkb with q | q | q | q | q | q | q | q <;> simp only [q, tn0, tn1, tn2, tn3, tn4, tn5, tn6, tn7] at * <;> first | rfl | (simp only [if_true, if_false, reduceIte, *]; done) | (simp_all [-Int32.not_le, -Int32.not_lt]; done) | (exfalso; revert q; simp_all; done) | contradiction)
  refine zr_tswK hE eX12_outsideBy_13 (4) (66) 79 (4) (by decide) (by decide) (by decide) (by decide) (by decide) (fun zk13_4 => ?_) (fun zk13_4 => ?_)
  · refine zr_iload_n hE eX12_outsideBy_79 rfl ?_
    refine zr_aload_n hE eX12_outsideBy_80 rfl ?_
    refine zr_iload_n hE eX12_outsideBy_81 rfl ?_
    refine zr_callV1 hE eX12_outsideBy_82 lX12_67 zs57 rfl rfl (by decide) (Nat.le_of_ble_eq_true rfl) (c_X12_turned hb ?_)
    refine zr_iadd hE eX12_outsideBy_85 ?_
    refine zr_iconst hE eX12_outsideBy_86 (v := 1) (by decide) ?_
    refine zr_iadd hE eX12_outsideBy_87 ?_
    refine hR.2.1 _ _ _ _ _ _ eX12_outsideBy_88 rfl rfl ?_
    exact zq hQ (by simp only [fOut, outK]; rcases vp8 hkb with q | q | q | q | q | q | q | q <;> simp only [q, tn0, tn1, tn2, tn3, tn4, tn5, tn6, tn7] at * <;> first | rfl | (simp only [if_true, if_false, reduceIte, *]; done) | (simp_all [-Int32.not_le, -Int32.not_lt]; done) | (exfalso; revert q; simp_all; done) | contradiction)
  refine zr_tswK hE eX12_outsideBy_13 (5) (76) 89 (5) (by decide) (by decide) (by decide) (by decide) (by decide) (fun zk13_5 => ?_) (fun zk13_5 => ?_)
  · refine zr_iload_n hE eX12_outsideBy_89 rfl ?_
    refine zr_iconst hE eX12_outsideBy_90 (v := 2) (by decide) ?_
    refine zr_iadd hE eX12_outsideBy_91 ?_
    refine hR.2.1 _ _ _ _ _ _ eX12_outsideBy_92 rfl rfl ?_
    exact zq hQ (by simp only [fOut, outK]; rcases vp8 hkb with q | q | q | q | q | q | q | q <;> simp only [q, tn0, tn1, tn2, tn3, tn4, tn5, tn6, tn7] at * <;> first | rfl | (simp only [if_true, if_false, reduceIte, *]; done) | (simp_all [-Int32.not_le, -Int32.not_lt]; done) | (exfalso; revert q; simp_all; done) | contradiction)
  refine zr_tswK hE eX12_outsideBy_13 (6) (80) 93 (6) (by decide) (by decide) (by decide) (by decide) (by decide) (fun zk13_6 => ?_) (fun zk13_6 => ?_)
  · refine zr_iload_n hE eX12_outsideBy_93 rfl ?_
    refine hR.2.1 _ _ _ _ _ _ eX12_outsideBy_94 rfl rfl ?_
    exact zq hQ (by simp only [fOut, outK]; rcases vp8 hkb with q | q | q | q | q | q | q | q <;> simp only [q, tn0, tn1, tn2, tn3, tn4, tn5, tn6, tn7] at * <;> first | rfl | (simp only [if_true, if_false, reduceIte, *]; done) | (simp_all [-Int32.not_le, -Int32.not_lt]; done) | (exfalso; revert q; simp_all; done) | contradiction)
  refine zr_tswK hE eX12_outsideBy_13 (7) (51) 64 (7) (by decide) (by decide) (by decide) (by decide) (by decide) (fun zk13_7 => ?_) (fun zk13_7 => ?_)
  · refine zr_iload_n hE eX12_outsideBy_64 rfl ?_
    refine zr_iload_n hE eX12_outsideBy_65 rfl ?_
    refine zr_isub hE eX12_outsideBy_66 ?_
    refine zr_iconst hE eX12_outsideBy_67 (v := 1) (by decide) ?_
    refine zr_kicmp_ge hE eX12_outsideBy_68 (tgt := 75) (by decide) (fun zc68 zd68 => ?_) (fun zc68 zd68 => ?_)
    · refine zr_iload_n hE eX12_outsideBy_75 rfl ?_
      refine zr_iload_n hE eX12_outsideBy_76 rfl ?_
      refine zr_isub hE eX12_outsideBy_77 ?_
      refine hR.2.1 _ _ _ _ _ _ eX12_outsideBy_78 rfl rfl ?_
      exact zq hQ (by simp only [fOut, outK]; rcases vp8 hkb with q | q | q | q | q | q | q | q <;> simp only [q, tn0, tn1, tn2, tn3, tn4, tn5, tn6, tn7] at * <;> first | rfl | (simp only [if_true, if_false, reduceIte, *]; done) | (simp_all [-Int32.not_le, -Int32.not_lt]; done) | (exfalso; revert q; simp_all; done) | contradiction)
    · refine zr_iconst hE eX12_outsideBy_71 (v := 1) (by decide) ?_
      refine zr_goto hE eX12_outsideBy_72 (tgt := 78) (by decide) ?_
      refine hR.2.1 _ _ _ _ _ _ eX12_outsideBy_78 rfl rfl ?_
      exact zq hQ (by simp only [fOut, outK]; rcases vp8 hkb with q | q | q | q | q | q | q | q <;> simp only [q, tn0, tn1, tn2, tn3, tn4, tn5, tn6, tn7] at * <;> first | rfl | (simp only [if_true, if_false, reduceIte, *]; done) | (simp_all [-Int32.not_le, -Int32.not_lt]; done) | (exfalso; revert q; simp_all; done) | contradiction)
  refine zr_tableOut hE eX12_outsideBy_13 (tgt := 93) ?_ (by decide) ?_
  · have zm1 := zne zk13_1 (v := 1) (by decide); have zm2 := zne zk13_2 (v := 2) (by decide); have zm3 := zne zk13_3 (v := 3) (by decide); have zm4 := zne zk13_4 (v := 4) (by decide); have zm5 := zne zk13_5 (v := 5) (by decide); have zm6 := zne zk13_6 (v := 6) (by decide); have zm7 := zne zk13_7 (v := 7) (by decide); omega
  refine zr_iload_n hE eX12_outsideBy_93 rfl ?_
  refine hR.2.1 _ _ _ _ _ _ eX12_outsideBy_94 rfl rfl ?_
  exact zq hQ (by simp only [fOut, outK]; rcases vp8 hkb with q | q | q | q | q | q | q | q <;> simp only [q, tn0, tn1, tn2, tn3, tn4, tn5, tn6, tn7] at * <;> first | rfl | (simp only [if_true, if_false, reduceIte, *]; done) | (simp_all [-Int32.not_le, -Int32.not_lt]; done) | (exfalso; revert q; simp_all; done) | contradiction)

set_option maxHeartbeats 4000000 in
theorem c_X12_insideBy {b s v : Int32} {w : ww} {Q : Option Value → ww → Prop} (hb : vp_in b 10) (hkb : vp_in (mB w 0 b.toNatClampNeg) 8) (hQ : Q (some (.int (fIn (mB w) b.toNatClampNeg s v))) w) : Ct mX12_insideBy 3 [.ref 57, .int b, .int s, .int v] w Q := by
  refine Ct.of (by decide) (Nat.le_of_ble_eq_true rfl) (fun _ => Nat.le_of_ble_eq_true rfl) (fun G hR => ?_)
  have hE := hR.1
  refine zr_iload_n hE eX12_insideBy_0 rfl ?_
  refine zr_iconst hE eX12_insideBy_1 (v := 2) (by decide) ?_
  refine zr_isub hE eX12_insideBy_2 ?_
  refine zr_iload_n hE eX12_insideBy_3 rfl ?_
  refine zr_isub hE eX12_insideBy_4 ?_
  refine zr_istore hE eX12_insideBy_5 (by decide) rfl ?_
  refine zr_aload_n hE eX12_insideBy_7 rfl ?_
  refine zr_iload_n hE eX12_insideBy_8 rfl ?_
  refine zr_iconst hE eX12_insideBy_9 (v := 0) (by decide) ?_
  refine zr_callV2 hE eX12_insideBy_10 lX12_63 zs57 rfl rfl (by decide) (Nat.le_of_ble_eq_true rfl) (c_X12_get 0 (by assumption) rfl (by decide) ?_)
  refine zr_tswK hE eX12_insideBy_13 (1) (43) 56 (1) (by decide) (by decide) (by decide) (by decide) (by decide) (fun zk13_1 => ?_) (fun zk13_1 => ?_)
  · refine zr_iload hE eX12_insideBy_56 rfl ?_
    refine zr_aload_n hE eX12_insideBy_58 rfl ?_
    refine zr_iload_n hE eX12_insideBy_59 rfl ?_
    refine zr_callV1 hE eX12_insideBy_60 lX12_67 zs57 rfl rfl (by decide) (Nat.le_of_ble_eq_true rfl) (c_X12_turned hb ?_)
    refine zr_iadd hE eX12_insideBy_63 ?_
    refine hR.2.1 _ _ _ _ _ _ eX12_insideBy_64 rfl rfl ?_
    exact zq hQ (by simp only [fIn, inK]; rcases vp8 hkb with q | q | q | q | q | q | q | q <;> simp only [q, tn0, tn1, tn2, tn3, tn4, tn5, tn6, tn7] at * <;> first | rfl | (simp only [if_true, if_false, reduceIte, *]; done) | (simp_all [-Int32.not_le, -Int32.not_lt]; done) | (exfalso; revert q; simp_all; done) | contradiction)
  refine zr_tswK hE eX12_insideBy_13 (2) (52) 65 (2) (by decide) (by decide) (by decide) (by decide) (by decide) (fun zk13_2 => ?_) (fun zk13_2 => ?_)
  · refine zr_iconst hE eX12_insideBy_65 (v := 0) (by decide) ?_
    refine hR.2.1 _ _ _ _ _ _ eX12_insideBy_66 rfl rfl ?_
    exact zq hQ (by simp only [fIn, inK]; rcases vp8 hkb with q | q | q | q | q | q | q | q <;> simp only [q, tn0, tn1, tn2, tn3, tn4, tn5, tn6, tn7] at * <;> first | rfl | (simp only [if_true, if_false, reduceIte, *]; done) | (simp_all [-Int32.not_le, -Int32.not_lt]; done) | (exfalso; revert q; simp_all; done) | contradiction)
  refine zr_tswK hE eX12_insideBy_13 (3) (54) 67 (3) (by decide) (by decide) (by decide) (by decide) (by decide) (fun zk13_3 => ?_) (fun zk13_3 => ?_)
  · refine zr_iload hE eX12_insideBy_67 rfl ?_
    refine zr_iconst hE eX12_insideBy_69 (v := 1) (by decide) ?_
    refine zr_isub hE eX12_insideBy_70 ?_
    refine hR.2.1 _ _ _ _ _ _ eX12_insideBy_71 rfl rfl ?_
    exact zq hQ (by simp only [fIn, inK]; rcases vp8 hkb with q | q | q | q | q | q | q | q <;> simp only [q, tn0, tn1, tn2, tn3, tn4, tn5, tn6, tn7] at * <;> first | rfl | (simp only [if_true, if_false, reduceIte, *]; done) | (simp_all [-Int32.not_le, -Int32.not_lt]; done) | (exfalso; revert q; simp_all; done) | contradiction)
  refine zr_tswK hE eX12_insideBy_13 (4) (43) 56 (4) (by decide) (by decide) (by decide) (by decide) (by decide) (fun zk13_4 => ?_) (fun zk13_4 => ?_)
  · refine zr_iload hE eX12_insideBy_56 rfl ?_
    refine zr_aload_n hE eX12_insideBy_58 rfl ?_
    refine zr_iload_n hE eX12_insideBy_59 rfl ?_
    refine zr_callV1 hE eX12_insideBy_60 lX12_67 zs57 rfl rfl (by decide) (Nat.le_of_ble_eq_true rfl) (c_X12_turned hb ?_)
    refine zr_iadd hE eX12_insideBy_63 ?_
    refine hR.2.1 _ _ _ _ _ _ eX12_insideBy_64 rfl rfl ?_
    exact zq hQ (by simp only [fIn, inK]; rcases vp8 hkb with q | q | q | q | q | q | q | q <;> simp only [q, tn0, tn1, tn2, tn3, tn4, tn5, tn6, tn7] at * <;> first | rfl | (simp only [if_true, if_false, reduceIte, *]; done) | (simp_all [-Int32.not_le, -Int32.not_lt]; done) | (exfalso; revert q; simp_all; done) | contradiction)
  refine zr_tswK hE eX12_insideBy_13 (5) (59) 72 (5) (by decide) (by decide) (by decide) (by decide) (by decide) (fun zk13_5 => ?_) (fun zk13_5 => ?_)
  · refine zr_iload hE eX12_insideBy_72 rfl ?_
    refine zr_iconst hE eX12_insideBy_74 (v := 1) (by decide) ?_
    refine zr_isub hE eX12_insideBy_75 ?_
    refine zr_aload_n hE eX12_insideBy_76 rfl ?_
    refine zr_iload_n hE eX12_insideBy_77 rfl ?_
    refine zr_iconst hE eX12_insideBy_78 (v := 1) (by decide) ?_
    refine zr_callV2 hE eX12_insideBy_79 lX12_63 zs57 rfl rfl (by decide) (Nat.le_of_ble_eq_true rfl) (c_X12_get 1 (by assumption) rfl (by decide) ?_)
    refine zr_isub hE eX12_insideBy_82 ?_
    refine hR.2.1 _ _ _ _ _ _ eX12_insideBy_83 rfl rfl ?_
    exact zq hQ (by simp only [fIn, inK]; rcases vp8 hkb with q | q | q | q | q | q | q | q <;> simp only [q, tn0, tn1, tn2, tn3, tn4, tn5, tn6, tn7] at * <;> first | rfl | (simp only [if_true, if_false, reduceIte, *]; done) | (simp_all [-Int32.not_le, -Int32.not_lt]; done) | (exfalso; revert q; simp_all; done) | contradiction)
  refine zr_tswK hE eX12_insideBy_13 (6) (54) 67 (6) (by decide) (by decide) (by decide) (by decide) (by decide) (fun zk13_6 => ?_) (fun zk13_6 => ?_)
  · refine zr_iload hE eX12_insideBy_67 rfl ?_
    refine zr_iconst hE eX12_insideBy_69 (v := 1) (by decide) ?_
    refine zr_isub hE eX12_insideBy_70 ?_
    refine hR.2.1 _ _ _ _ _ _ eX12_insideBy_71 rfl rfl ?_
    exact zq hQ (by simp only [fIn, inK]; rcases vp8 hkb with q | q | q | q | q | q | q | q <;> simp only [q, tn0, tn1, tn2, tn3, tn4, tn5, tn6, tn7] at * <;> first | rfl | (simp only [if_true, if_false, reduceIte, *]; done) | (simp_all [-Int32.not_le, -Int32.not_lt]; done) | (exfalso; revert q; simp_all; done) | contradiction)
  refine zr_tswK hE eX12_insideBy_13 (7) (52) 65 (7) (by decide) (by decide) (by decide) (by decide) (by decide) (fun zk13_7 => ?_) (fun zk13_7 => ?_)
  · refine zr_iconst hE eX12_insideBy_65 (v := 0) (by decide) ?_
    refine hR.2.1 _ _ _ _ _ _ eX12_insideBy_66 rfl rfl ?_
    exact zq hQ (by simp only [fIn, inK]; rcases vp8 hkb with q | q | q | q | q | q | q | q <;> simp only [q, tn0, tn1, tn2, tn3, tn4, tn5, tn6, tn7] at * <;> first | rfl | (simp only [if_true, if_false, reduceIte, *]; done) | (simp_all [-Int32.not_le, -Int32.not_lt]; done) | (exfalso; revert q; simp_all; done) | contradiction)
  refine zr_tableOut hE eX12_insideBy_13 (tgt := 84) ?_ (by decide) ?_
  · have zm1 := zne zk13_1 (v := 1) (by decide); have zm2 := zne zk13_2 (v := 2) (by decide); have zm3 := zne zk13_3 (v := 3) (by decide); have zm4 := zne zk13_4 (v := 4) (by decide); have zm5 := zne zk13_5 (v := 5) (by decide); have zm6 := zne zk13_6 (v := 6) (by decide); have zm7 := zne zk13_7 (v := 7) (by decide); omega
  refine zr_iload hE eX12_insideBy_84 rfl ?_
  refine hR.2.1 _ _ _ _ _ _ eX12_insideBy_86 rfl rfl ?_
  exact zq hQ (by simp only [fIn, inK]; rcases vp8 hkb with q | q | q | q | q | q | q | q <;> simp only [q, tn0, tn1, tn2, tn3, tn4, tn5, tn6, tn7] at * <;> first | rfl | (simp only [if_true, if_false, reduceIte, *]; done) | (simp_all [-Int32.not_le, -Int32.not_lt]; done) | (exfalso; revert q; simp_all; done) | contradiction)

set_option maxHeartbeats 4000000 in
theorem c_X12_rise {b : Int32} {w : ww} {Q : Option Value → ww → Prop} (hb : vp_in b 10) (hkb : vp_in (mB w 0 b.toNatClampNeg) 8) (hQ : Q (some (.int (fRi (mB w) b.toNatClampNeg))) w) : Ct mX12_rise 2 [.ref 57, .int b] w Q := by
  refine Ct.of (by decide) (Nat.le_of_ble_eq_true rfl) (fun _ => Nat.le_of_ble_eq_true rfl) (fun G hR => ?_)
  have hE := hR.1
  refine zr_aload_n hE eX12_rise_0 rfl ?_
  refine zr_iload_n hE eX12_rise_1 rfl ?_
  refine zr_iconst hE eX12_rise_2 (v := 0) (by decide) ?_
  refine zr_callV2 hE eX12_rise_3 lX12_63 zs57 rfl rfl (by decide) (Nat.le_of_ble_eq_true rfl) (c_X12_get 0 (by assumption) rfl (by decide) ?_)
  refine zr_tswK hE eX12_rise_6 (2) (34) 40 (2) (by decide) (by decide) (by decide) (by decide) (by decide) (fun zk6_2 => ?_) (fun zk6_2 => ?_)
  · refine zr_iconst hE eX12_rise_40 (v := 2) (by decide) ?_
    refine hR.2.1 _ _ _ _ _ _ eX12_rise_41 rfl rfl ?_
    exact zq hQ (by simp only [fRi, riK]; rcases vp8 hkb with q | q | q | q | q | q | q | q <;> simp only [q, tn0, tn1, tn2, tn3, tn4, tn5, tn6, tn7] at * <;> first | rfl | (simp only [if_true, if_false, reduceIte, *]; done) | (simp_all [-Int32.not_le, -Int32.not_lt]; done) | (exfalso; revert q; simp_all; done) | contradiction)
  refine zr_tswK hE eX12_rise_6 (3) (36) 42 (3) (by decide) (by decide) (by decide) (by decide) (by decide) (fun zk6_3 => ?_) (fun zk6_3 => ?_)
  · refine zr_iconst hE eX12_rise_42 (v := 1) (by decide) ?_
    refine zr_aload_n hE eX12_rise_43 rfl ?_
    refine zr_iload_n hE eX12_rise_44 rfl ?_
    refine zr_iconst hE eX12_rise_45 (v := 1) (by decide) ?_
    refine zr_callV2 hE eX12_rise_46 lX12_63 zs57 rfl rfl (by decide) (Nat.le_of_ble_eq_true rfl) (c_X12_get 1 (by assumption) rfl (by decide) ?_)
    refine zr_iadd hE eX12_rise_49 ?_
    refine hR.2.1 _ _ _ _ _ _ eX12_rise_50 rfl rfl ?_
    exact zq hQ (by simp only [fRi, riK]; rcases vp8 hkb with q | q | q | q | q | q | q | q <;> simp only [q, tn0, tn1, tn2, tn3, tn4, tn5, tn6, tn7] at * <;> first | rfl | (simp only [if_true, if_false, reduceIte, *]; done) | (simp_all [-Int32.not_le, -Int32.not_lt]; done) | (exfalso; revert q; simp_all; done) | contradiction)
  refine zr_tswK hE eX12_rise_6 (4) (56) 62 (4) (by decide) (by decide) (by decide) (by decide) (by decide) (fun zk6_4 => ?_) (fun zk6_4 => ?_)
  · refine zr_iconst hE eX12_rise_62 (v := 1) (by decide) ?_
    refine hR.2.1 _ _ _ _ _ _ eX12_rise_63 rfl rfl ?_
    exact zq hQ (by simp only [fRi, riK]; rcases vp8 hkb with q | q | q | q | q | q | q | q <;> simp only [q, tn0, tn1, tn2, tn3, tn4, tn5, tn6, tn7] at * <;> first | rfl | (simp only [if_true, if_false, reduceIte, *]; done) | (simp_all [-Int32.not_le, -Int32.not_lt]; done) | (exfalso; revert q; simp_all; done) | contradiction)
  refine zr_tswK hE eX12_rise_6 (5) (36) 42 (5) (by decide) (by decide) (by decide) (by decide) (by decide) (fun zk6_5 => ?_) (fun zk6_5 => ?_)
  · refine zr_iconst hE eX12_rise_42 (v := 1) (by decide) ?_
    refine zr_aload_n hE eX12_rise_43 rfl ?_
    refine zr_iload_n hE eX12_rise_44 rfl ?_
    refine zr_iconst hE eX12_rise_45 (v := 1) (by decide) ?_
    refine zr_callV2 hE eX12_rise_46 lX12_63 zs57 rfl rfl (by decide) (Nat.le_of_ble_eq_true rfl) (c_X12_get 1 (by assumption) rfl (by decide) ?_)
    refine zr_iadd hE eX12_rise_49 ?_
    refine hR.2.1 _ _ _ _ _ _ eX12_rise_50 rfl rfl ?_
    exact zq hQ (by simp only [fRi, riK]; rcases vp8 hkb with q | q | q | q | q | q | q | q <;> simp only [q, tn0, tn1, tn2, tn3, tn4, tn5, tn6, tn7] at * <;> first | rfl | (simp only [if_true, if_false, reduceIte, *]; done) | (simp_all [-Int32.not_le, -Int32.not_lt]; done) | (exfalso; revert q; simp_all; done) | contradiction)
  refine zr_tswK hE eX12_rise_6 (6) (45) 51 (6) (by decide) (by decide) (by decide) (by decide) (by decide) (fun zk6_6 => ?_) (fun zk6_6 => ?_)
  · refine zr_iconst hE eX12_rise_51 (v := 2) (by decide) ?_
    refine zr_iconst hE eX12_rise_52 (v := 2) (by decide) ?_
    refine zr_aload_n hE eX12_rise_53 rfl ?_
    refine zr_iload_n hE eX12_rise_54 rfl ?_
    refine zr_iconst hE eX12_rise_55 (v := 1) (by decide) ?_
    refine zr_callV2 hE eX12_rise_56 lX12_63 zs57 rfl rfl (by decide) (Nat.le_of_ble_eq_true rfl) (c_X12_get 1 (by assumption) rfl (by decide) ?_)
    refine zr_imul hE eX12_rise_59 ?_
    refine zr_iadd hE eX12_rise_60 ?_
    refine hR.2.1 _ _ _ _ _ _ eX12_rise_61 rfl rfl ?_
    exact zq hQ (by simp only [fRi, riK]; rcases vp8 hkb with q | q | q | q | q | q | q | q <;> simp only [q, tn0, tn1, tn2, tn3, tn4, tn5, tn6, tn7] at * <;> first | rfl | (simp only [if_true, if_false, reduceIte, *]; done) | (simp_all [-Int32.not_le, -Int32.not_lt]; done) | (exfalso; revert q; simp_all; done) | contradiction)
  refine zr_tableOut hE eX12_rise_6 (tgt := 62) ?_ (by decide) ?_
  · have zm2 := zne zk6_2 (v := 2) (by decide); have zm3 := zne zk6_3 (v := 3) (by decide); have zm4 := zne zk6_4 (v := 4) (by decide); have zm5 := zne zk6_5 (v := 5) (by decide); have zm6 := zne zk6_6 (v := 6) (by decide); omega
  refine zr_iconst hE eX12_rise_62 (v := 1) (by decide) ?_
  refine hR.2.1 _ _ _ _ _ _ eX12_rise_63 rfl rfl ?_
  exact zq hQ (by simp only [fRi, riK]; rcases vp8 hkb with q | q | q | q | q | q | q | q <;> simp only [q, tn0, tn1, tn2, tn3, tn4, tn5, tn6, tn7] at * <;> first | rfl | (simp only [if_true, if_false, reduceIte, *]; done) | (simp_all [-Int32.not_le, -Int32.not_lt]; done) | (exfalso; revert q; simp_all; done) | contradiction)

set_option maxHeartbeats 4000000 in
theorem c_X12_outside {b : Int32} {w : ww} {Q : Option Value → ww → Prop} (hb : vp_in b 10) (hkb : vp_in (mB w 0 b.toNatClampNeg) 8) (hQ : Q (some (.int (fOut (mB w) b.toNatClampNeg (mB w 3 b.toNatClampNeg)))) w) : Ct mX12_outside 4 [.ref 57, .int b] w Q := by
  refine Ct.of (by decide) (Nat.le_of_ble_eq_true rfl) (fun _ => Nat.le_of_ble_eq_true rfl) (fun G hR => ?_)
  have hE := hR.1
  refine zr_aload_n hE eX12_outside_0 rfl ?_
  refine zr_iload_n hE eX12_outside_1 rfl ?_
  refine zr_aload_n hE eX12_outside_2 rfl ?_
  refine zr_iload_n hE eX12_outside_3 rfl ?_
  refine zr_iconst hE eX12_outside_4 (v := 3) (by decide) ?_
  refine zr_callV2 hE eX12_outside_5 lX12_63 zs57 rfl rfl (by decide) (Nat.le_of_ble_eq_true rfl) (c_X12_get 3 (by assumption) rfl (by decide) ?_)
  refine zr_callV2 hE eX12_outside_8 lX12_71 zs57 rfl rfl (by decide) (Nat.le_of_ble_eq_true rfl) (c_X12_outsideBy hb hkb ?_)
  refine hR.2.1 _ _ _ _ _ _ eX12_outside_11 rfl rfl ?_
  exact hQ

set_option maxHeartbeats 4000000 in
theorem c_X12_inside {b : Int32} {w : ww} {Q : Option Value → ww → Prop} (hb : vp_in b 10) (hkb : vp_in (mB w 0 b.toNatClampNeg) 8) (hQ : Q (some (.int (fIn (mB w) b.toNatClampNeg (mB w 3 b.toNatClampNeg) (w 58 1)))) w) : Ct mX12_inside 4 [.ref 57, .int b] w Q := by
  refine Ct.of (by decide) (Nat.le_of_ble_eq_true rfl) (fun _ => Nat.le_of_ble_eq_true rfl) (fun G hR => ?_)
  have hE := hR.1
  refine zr_aload_n hE eX12_inside_0 rfl ?_
  refine zr_iload_n hE eX12_inside_1 rfl ?_
  refine zr_aload_n hE eX12_inside_2 rfl ?_
  refine zr_iload_n hE eX12_inside_3 rfl ?_
  refine zr_iconst hE eX12_inside_4 (v := 3) (by decide) ?_
  refine zr_callV2 hE eX12_inside_5 lX12_63 zs57 rfl rfl (by decide) (Nat.le_of_ble_eq_true rfl) (c_X12_get 3 (by assumption) rfl (by decide) ?_)
  refine zr_aload_n hE eX12_inside_8 rfl ?_
  refine zr_getR hE eX12_inside_9 fX12_9 zs57 rfl ?_
  refine zr_iconst hE eX12_inside_12 (v := 1) (by decide) ?_
  refine zr_iald hE eX12_inside_13 zs58 (by unfold vp_in; decide) ?_
  refine zr_callV3 hE eX12_inside_14 lX12_74 zs57 rfl rfl (by decide) (Nat.le_of_ble_eq_true rfl) (c_X12_insideBy hb hkb ?_)
  refine hR.2.1 _ _ _ _ _ _ eX12_inside_17 rfl rfl ?_
  exact hQ

set_option maxHeartbeats 4000000 in
theorem c_X12_isOval {b : Int32} {w : ww} {Q : Option Value → ww → Prop} (hb : vp_in b 10) (hQ : Q (some (.int (bi (miK (mB w 0 b.toNatClampNeg))))) w) : Ct mX12_isOval 2 [.ref 57, .int b] w Q := by
  refine Ct.of (by decide) (Nat.le_of_ble_eq_true rfl) (fun _ => Nat.le_of_ble_eq_true rfl) (fun G hR => ?_)
  have hE := hR.1
  refine zr_aload_n hE eX12_isOval_0 rfl ?_
  refine zr_iload_n hE eX12_isOval_1 rfl ?_
  refine zr_iconst hE eX12_isOval_2 (v := 0) (by decide) ?_
  refine zr_callV2 hE eX12_isOval_3 lX12_63 zs57 rfl rfl (by decide) (Nat.le_of_ble_eq_true rfl) (c_X12_get 0 (by assumption) rfl (by decide) ?_)
  refine zr_iconst hE eX12_isOval_6 (v := 1) (by decide) ?_
  refine zr_icmp_eq hE eX12_isOval_7 (tgt := 20) (by decide) (fun zc7 => ?_) (fun zc7 => ?_)
  · refine zr_iconst hE eX12_isOval_20 (v := 1) (by decide) ?_
    refine zr_goto hE eX12_isOval_21 (tgt := 25) (by decide) ?_
    refine hR.2.1 _ _ _ _ _ _ eX12_isOval_25 rfl rfl ?_
    exact zq hQ (zb1 (by simp only [miK]; simp_all))
  · refine zr_aload_n hE eX12_isOval_10 rfl ?_
    refine zr_iload_n hE eX12_isOval_11 rfl ?_
    refine zr_iconst hE eX12_isOval_12 (v := 0) (by decide) ?_
    refine zr_callV2 hE eX12_isOval_13 lX12_63 zs57 rfl rfl (by decide) (Nat.le_of_ble_eq_true rfl) (c_X12_get 0 (by assumption) rfl (by decide) ?_)
    refine zr_iconst hE eX12_isOval_16 (v := 4) (by decide) ?_
    refine zr_icmp_ne hE eX12_isOval_17 (tgt := 24) (by decide) (fun zc17 => ?_) (fun zc17 => ?_)
    · refine zr_iconst hE eX12_isOval_24 (v := 0) (by decide) ?_
      refine hR.2.1 _ _ _ _ _ _ eX12_isOval_25 rfl rfl ?_
      exact zq hQ (zb0 (by simp only [miK]; simp_all))
    · refine zr_iconst hE eX12_isOval_20 (v := 1) (by decide) ?_
      refine zr_goto hE eX12_isOval_21 (tgt := 25) (by decide) ?_
      refine hR.2.1 _ _ _ _ _ _ eX12_isOval_25 rfl rfl ?_
      exact zq hQ (zb1 (by simp only [miK]; simp_all))

set_option maxHeartbeats 4000000 in
theorem c_X12_fitsBut {a b : Int32} {w : ww} {Q : Option Value → ww → Prop} (ha : vp_in a 10) (hb : vp_in b 10) (hQ : Q (some (.int (bi (fAg (mB w) a.toNatClampNeg b.toNatClampNeg)))) w) : Ct mX12_fitsBut 3 [.ref 57, .int a, .int b] w Q := by
  refine Ct.of (by decide) (Nat.le_of_ble_eq_true rfl) (fun _ => Nat.le_of_ble_eq_true rfl) (fun G hR => ?_)
  have hE := hR.1
  refine zr_aload_n hE eX12_fitsBut_0 rfl ?_
  refine zr_iload_n hE eX12_fitsBut_1 rfl ?_
  refine zr_iconst hE eX12_fitsBut_2 (v := 4) (by decide) ?_
  refine zr_callV2 hE eX12_fitsBut_3 lX12_63 zs57 rfl rfl (by decide) (Nat.le_of_ble_eq_true rfl) (c_X12_get 4 (by assumption) rfl (by decide) ?_)
  refine zr_aload_n hE eX12_fitsBut_6 rfl ?_
  refine zr_iload_n hE eX12_fitsBut_7 rfl ?_
  refine zr_iconst hE eX12_fitsBut_8 (v := 4) (by decide) ?_
  refine zr_callV2 hE eX12_fitsBut_9 lX12_63 zs57 rfl rfl (by decide) (Nat.le_of_ble_eq_true rfl) (c_X12_get 4 (by assumption) rfl (by decide) ?_)
  refine zr_aload_n hE eX12_fitsBut_12 rfl ?_
  refine zr_iload_n hE eX12_fitsBut_13 rfl ?_
  refine zr_iconst hE eX12_fitsBut_14 (v := 1) (by decide) ?_
  refine zr_callV2 hE eX12_fitsBut_15 lX12_63 zs57 rfl rfl (by decide) (Nat.le_of_ble_eq_true rfl) (c_X12_get 1 (by assumption) rfl (by decide) ?_)
  refine zr_iadd hE eX12_fitsBut_18 ?_
  refine zr_kicmp_gt hE eX12_fitsBut_19 (tgt := 57) (by decide) (fun zc19 zd19 => ?_) (fun zc19 zd19 => ?_)
  · refine zr_iconst hE eX12_fitsBut_57 (v := 0) (by decide) ?_
    refine hR.2.1 _ _ _ _ _ _ eX12_fitsBut_58 rfl rfl ?_
    exact zq hQ (zb0 (by simp only [fAg]; simp_all [-Int32.not_le, -Int32.not_lt]))
  · refine zr_aload_n hE eX12_fitsBut_22 rfl ?_
    refine zr_iload_n hE eX12_fitsBut_23 rfl ?_
    refine zr_callV1 hE eX12_fitsBut_24 lX12_78 zs57 rfl rfl (by decide) (Nat.le_of_ble_eq_true rfl) (c_X12_isOval (by assumption) ?_)
    refine zr_beq hE eX12_fitsBut_27 (tgt := 53) (by decide) (fun zc27 => ?_) (fun zc27 => ?_)
    · refine zr_iconst hE eX12_fitsBut_53 (v := 1) (by decide) ?_
      refine zr_goto hE eX12_fitsBut_54 (tgt := 58) (by decide) ?_
      refine hR.2.1 _ _ _ _ _ _ eX12_fitsBut_58 rfl rfl ?_
      exact zq hQ (zb1 (by simp only [fAg]; simp_all [-Int32.not_le, -Int32.not_lt]))
    · refine zr_aload_n hE eX12_fitsBut_30 rfl ?_
      refine zr_iload_n hE eX12_fitsBut_31 rfl ?_
      refine zr_callV1 hE eX12_fitsBut_32 lX12_78 zs57 rfl rfl (by decide) (Nat.le_of_ble_eq_true rfl) (c_X12_isOval (by assumption) ?_)
      refine zr_beq hE eX12_fitsBut_35 (tgt := 53) (by decide) (fun zc35 => ?_) (fun zc35 => ?_)
      · refine zr_iconst hE eX12_fitsBut_53 (v := 1) (by decide) ?_
        refine zr_goto hE eX12_fitsBut_54 (tgt := 58) (by decide) ?_
        refine hR.2.1 _ _ _ _ _ _ eX12_fitsBut_58 rfl rfl ?_
        exact zq hQ (zb1 (by simp only [fAg]; simp_all [-Int32.not_le, -Int32.not_lt]))
      · refine zr_aload_n hE eX12_fitsBut_38 rfl ?_
        refine zr_iload_n hE eX12_fitsBut_39 rfl ?_
        refine zr_iconst hE eX12_fitsBut_40 (v := 2) (by decide) ?_
        refine zr_callV2 hE eX12_fitsBut_41 lX12_63 zs57 rfl rfl (by decide) (Nat.le_of_ble_eq_true rfl) (c_X12_get 2 (by assumption) rfl (by decide) ?_)
        refine zr_aload_n hE eX12_fitsBut_44 rfl ?_
        refine zr_iload_n hE eX12_fitsBut_45 rfl ?_
        refine zr_iconst hE eX12_fitsBut_46 (v := 2) (by decide) ?_
        refine zr_callV2 hE eX12_fitsBut_47 lX12_63 zs57 rfl rfl (by decide) (Nat.le_of_ble_eq_true rfl) (c_X12_get 2 (by assumption) rfl (by decide) ?_)
        refine zr_icmp_ne hE eX12_fitsBut_50 (tgt := 57) (by decide) (fun zc50 => ?_) (fun zc50 => ?_)
        · refine zr_iconst hE eX12_fitsBut_57 (v := 0) (by decide) ?_
          refine hR.2.1 _ _ _ _ _ _ eX12_fitsBut_58 rfl rfl ?_
          exact zq hQ (zb0 (by simp only [fAg]; simp_all [-Int32.not_le, -Int32.not_lt]))
        · refine zr_iconst hE eX12_fitsBut_53 (v := 1) (by decide) ?_
          refine zr_goto hE eX12_fitsBut_54 (tgt := 58) (by decide) ?_
          refine hR.2.1 _ _ _ _ _ _ eX12_fitsBut_58 rfl rfl ?_
          exact zq hQ (zb1 (by simp only [fAg]; simp_all [-Int32.not_le, -Int32.not_lt]))

set_option maxHeartbeats 4000000 in
theorem c_X12_liesAt {a b v : Int32} {w : ww} {Q : Option Value → ww → Prop} (ha : vp_in a 10) (hb : vp_in b 10) (hka : vp_in (mB w 0 a.toNatClampNeg) 8) (hkb : vp_in (mB w 0 b.toNatClampNeg) 8) (hQ : Q (some (.int (bi (fLi (mB w) a.toNatClampNeg b.toNatClampNeg v)))) w) : Ct mX12_liesAt 5 [.ref 57, .int a, .int b, .int v] w Q := by
  refine Ct.of (by decide) (Nat.le_of_ble_eq_true rfl) (fun _ => Nat.le_of_ble_eq_true rfl) (fun G hR => ?_)
  have hE := hR.1
  refine zr_aload_n hE eX12_liesAt_0 rfl ?_
  refine zr_iload_n hE eX12_liesAt_1 rfl ?_
  refine zr_callV1 hE eX12_liesAt_2 lX12_82 zs57 rfl rfl (by decide) (Nat.le_of_ble_eq_true rfl) (c_X12_outside ha hka ?_)
  refine zr_aload_n hE eX12_liesAt_5 rfl ?_
  refine zr_iload_n hE eX12_liesAt_6 rfl ?_
  refine zr_aload_n hE eX12_liesAt_7 rfl ?_
  refine zr_iload_n hE eX12_liesAt_8 rfl ?_
  refine zr_iconst hE eX12_liesAt_9 (v := 3) (by decide) ?_
  refine zr_callV2 hE eX12_liesAt_10 lX12_63 zs57 rfl rfl (by decide) (Nat.le_of_ble_eq_true rfl) (c_X12_get 3 (by assumption) rfl (by decide) ?_)
  refine zr_iload_n hE eX12_liesAt_13 rfl ?_
  refine zr_callV3 hE eX12_liesAt_14 lX12_74 zs57 rfl rfl (by decide) (Nat.le_of_ble_eq_true rfl) (c_X12_insideBy hb hkb ?_)
  refine zr_kicmp_gt hE eX12_liesAt_17 (tgt := 33) (by decide) (fun zc17 zd17 => ?_) (fun zc17 zd17 => ?_)
  · refine zr_iconst hE eX12_liesAt_33 (v := 0) (by decide) ?_
    refine hR.2.1 _ _ _ _ _ _ eX12_liesAt_34 rfl rfl ?_
    exact zq hQ (zb0 (by simp only [fLi]; simp_all [-Int32.not_le, -Int32.not_lt]))
  · refine zr_aload_n hE eX12_liesAt_20 rfl ?_
    refine zr_iload_n hE eX12_liesAt_21 rfl ?_
    refine zr_iload_n hE eX12_liesAt_22 rfl ?_
    refine zr_callV2 hE eX12_liesAt_23 lX12_85 zs57 rfl rfl (by decide) (Nat.le_of_ble_eq_true rfl) (c_X12_fitsBut ha hb ?_)
    refine zr_beq hE eX12_liesAt_26 (tgt := 33) (by decide) (fun zc26 => ?_) (fun zc26 => ?_)
    · refine zr_iconst hE eX12_liesAt_33 (v := 0) (by decide) ?_
      refine hR.2.1 _ _ _ _ _ _ eX12_liesAt_34 rfl rfl ?_
      exact zq hQ (zb0 (by simp only [fLi]; simp_all [-Int32.not_le, -Int32.not_lt]))
    · refine zr_iconst hE eX12_liesAt_29 (v := 1) (by decide) ?_
      refine zr_goto hE eX12_liesAt_30 (tgt := 34) (by decide) ?_
      refine hR.2.1 _ _ _ _ _ _ eX12_liesAt_34 rfl rfl ?_
      exact zq hQ (zb1 (by simp only [fLi]; simp_all [-Int32.not_le, -Int32.not_lt]))

set_option maxHeartbeats 4000000 in
theorem c_X12_liesNow {a b : Int32} {w : ww} {Q : Option Value → ww → Prop} (ha : vp_in a 10) (hb : vp_in b 10) (hka : vp_in (mB w 0 a.toNatClampNeg) 8) (hkb : vp_in (mB w 0 b.toNatClampNeg) 8) (hQ : Q (some (.int (bi (fLi (mB w) a.toNatClampNeg b.toNatClampNeg (w 58 1))))) w) : Ct mX12_liesNow 6 [.ref 57, .int a, .int b] w Q := by
  refine Ct.of (by decide) (Nat.le_of_ble_eq_true rfl) (fun _ => Nat.le_of_ble_eq_true rfl) (fun G hR => ?_)
  have hE := hR.1
  refine zr_aload_n hE eX12_liesNow_0 rfl ?_
  refine zr_iload_n hE eX12_liesNow_1 rfl ?_
  refine zr_iload_n hE eX12_liesNow_2 rfl ?_
  refine zr_aload_n hE eX12_liesNow_3 rfl ?_
  refine zr_getR hE eX12_liesNow_4 fX12_9 zs57 rfl ?_
  refine zr_iconst hE eX12_liesNow_7 (v := 1) (by decide) ?_
  refine zr_iald hE eX12_liesNow_8 zs58 (by unfold vp_in; decide) ?_
  refine zr_callV3 hE eX12_liesNow_9 lX12_89 zs57 rfl rfl (by decide) (Nat.le_of_ble_eq_true rfl) (c_X12_liesAt ha hb hka hkb ?_)
  refine hR.2.1 _ _ _ _ _ _ eX12_liesNow_12 rfl (narrow_bi _) ?_
  exact hQ

/-- why nothing can be taken from a kept thing: of: the sort, below 0 any -/
def mrR (w : ww) (d s : Int32) : Int32 := if fIs d 0 7 = false then -1 else if w 61 d.toNatClampNeg = 0 then -11 else if ¬ w 61 d.toNatClampNeg = 2 ∨ (0 ≤ s ∧ ¬ w 62 d.toNatClampNeg = s) then -12 else 0
def mrK (w : ww) (d : Int32) : Int32 := if fIs d 0 7 = false then -1 else if w 61 d.toNatClampNeg = 0 then -11 else if w 61 d.toNatClampNeg = 1 then 0 else -12
set_option maxHeartbeats 4000000 in
theorem c_X12_wrongRow {d s : Int32} {w : ww} {Q : Option Value → ww → Prop} (hQ : Q (some (.int (mrR w d s))) w) : Ct mX12_wrongRow 3 [.ref 57, .int d, .int s] w Q := by
  refine Ct.of (by decide) (Nat.le_of_ble_eq_true rfl) (fun _ => Nat.le_of_ble_eq_true rfl) (fun G hR => ?_)
  have hE := hR.1
  refine zr_iload_n hE eX12_wrongRow_0 rfl ?_
  refine zr_callS1 hE eX12_wrongRow_1 lX12_129 (by decide) (Nat.le_of_ble_eq_true rfl) (c_X12_isShelf ?_)
  refine zr_bne hE eX12_wrongRow_4 (tgt := 11) (by decide) (fun zc4 => ?_) (fun zc4 => ?_)
  · refine zr_aload_n hE eX12_wrongRow_11 rfl ?_
    refine zr_getR hE eX12_wrongRow_12 fX12_19 zs57 rfl ?_
    refine zr_iload_n hE eX12_wrongRow_15 rfl ?_
    refine zr_iald hE eX12_wrongRow_16 zs61 (fIs_vp (by assumption)) ?_
    refine zr_if_ne hE eX12_wrongRow_17 (tgt := 25) (by decide) (fun zc17 => ?_) (fun zc17 => ?_)
    · refine zr_aload_n hE eX12_wrongRow_25 rfl ?_
      refine zr_getR hE eX12_wrongRow_26 fX12_19 zs57 rfl ?_
      refine zr_iload_n hE eX12_wrongRow_29 rfl ?_
      refine zr_iald hE eX12_wrongRow_30 zs61 (fIs_vp (by assumption)) ?_
      refine zr_iconst hE eX12_wrongRow_31 (v := 2) (by decide) ?_
      refine zr_icmp_ne hE eX12_wrongRow_32 (tgt := 49) (by decide) (fun zc32 => ?_) (fun zc32 => ?_)
      · refine zr_bipush hE eX12_wrongRow_49 (v := -12) (by decide) ?_
        refine zr_goto hE eX12_wrongRow_51 (tgt := 55) (by decide) ?_
        refine hR.2.1 _ _ _ _ _ _ eX12_wrongRow_55 rfl rfl ?_
        exact zq hQ (by simp only [mrR]; simp_all [-Int32.not_le, -Int32.not_lt])
      · refine zr_iload_n hE eX12_wrongRow_35 rfl ?_
        refine zr_kif_lt hE eX12_wrongRow_36 (tgt := 54) (by decide) (fun zc36 zd36 => ?_) (fun zc36 zd36 => ?_)
        · refine zr_iconst hE eX12_wrongRow_54 (v := 0) (by decide) ?_
          refine hR.2.1 _ _ _ _ _ _ eX12_wrongRow_55 rfl rfl ?_
          exact zq hQ (by simp only [mrR]; simp_all [-Int32.not_le, -Int32.not_lt])
        · refine zr_aload_n hE eX12_wrongRow_39 rfl ?_
          refine zr_getR hE eX12_wrongRow_40 fX12_22 zs57 rfl ?_
          refine zr_iload_n hE eX12_wrongRow_43 rfl ?_
          refine zr_iald hE eX12_wrongRow_44 zs62 (fIs_vp (by assumption)) ?_
          refine zr_iload_n hE eX12_wrongRow_45 rfl ?_
          refine zr_icmp_eq hE eX12_wrongRow_46 (tgt := 54) (by decide) (fun zc46 => ?_) (fun zc46 => ?_)
          · refine zr_iconst hE eX12_wrongRow_54 (v := 0) (by decide) ?_
            refine hR.2.1 _ _ _ _ _ _ eX12_wrongRow_55 rfl rfl ?_
            exact zq hQ (by simp only [mrR]; simp_all [-Int32.not_le, -Int32.not_lt])
          · refine zr_bipush hE eX12_wrongRow_49 (v := -12) (by decide) ?_
            refine zr_goto hE eX12_wrongRow_51 (tgt := 55) (by decide) ?_
            refine hR.2.1 _ _ _ _ _ _ eX12_wrongRow_55 rfl rfl ?_
            exact zq hQ (by simp only [mrR]; simp_all [-Int32.not_le, -Int32.not_lt])
    · refine zr_bipush hE eX12_wrongRow_20 (v := -11) (by decide) ?_
      refine zr_goto hE eX12_wrongRow_22 (tgt := 55) (by decide) ?_
      refine hR.2.1 _ _ _ _ _ _ eX12_wrongRow_55 rfl rfl ?_
      exact zq hQ (by simp only [mrR]; simp_all [-Int32.not_le, -Int32.not_lt])
  · refine zr_iconst hE eX12_wrongRow_7 (v := -1) (by decide) ?_
    refine zr_goto hE eX12_wrongRow_8 (tgt := 55) (by decide) ?_
    refine hR.2.1 _ _ _ _ _ _ eX12_wrongRow_55 rfl rfl ?_
    exact zq hQ (by simp only [mrR]; simp_all [-Int32.not_le, -Int32.not_lt])

set_option maxHeartbeats 4000000 in
theorem c_X12_wrongKept {d : Int32} {w : ww} {Q : Option Value → ww → Prop} (hQ : Q (some (.int (mrK w d))) w) : Ct mX12_wrongKept 3 [.ref 57, .int d] w Q := by
  refine Ct.of (by decide) (Nat.le_of_ble_eq_true rfl) (fun _ => Nat.le_of_ble_eq_true rfl) (fun G hR => ?_)
  have hE := hR.1
  refine zr_iload_n hE eX12_wrongKept_0 rfl ?_
  refine zr_callS1 hE eX12_wrongKept_1 lX12_129 (by decide) (Nat.le_of_ble_eq_true rfl) (c_X12_isShelf ?_)
  refine zr_bne hE eX12_wrongKept_4 (tgt := 11) (by decide) (fun zc4 => ?_) (fun zc4 => ?_)
  · refine zr_aload_n hE eX12_wrongKept_11 rfl ?_
    refine zr_getR hE eX12_wrongKept_12 fX12_19 zs57 rfl ?_
    refine zr_iload_n hE eX12_wrongKept_15 rfl ?_
    refine zr_iald hE eX12_wrongKept_16 zs61 (fIs_vp (by assumption)) ?_
    refine zr_if_ne hE eX12_wrongKept_17 (tgt := 25) (by decide) (fun zc17 => ?_) (fun zc17 => ?_)
    · refine zr_aload_n hE eX12_wrongKept_25 rfl ?_
      refine zr_getR hE eX12_wrongKept_26 fX12_19 zs57 rfl ?_
      refine zr_iload_n hE eX12_wrongKept_29 rfl ?_
      refine zr_iald hE eX12_wrongKept_30 zs61 (fIs_vp (by assumption)) ?_
      refine zr_iconst hE eX12_wrongKept_31 (v := 1) (by decide) ?_
      refine zr_icmp_ne hE eX12_wrongKept_32 (tgt := 39) (by decide) (fun zc32 => ?_) (fun zc32 => ?_)
      · refine zr_bipush hE eX12_wrongKept_39 (v := -12) (by decide) ?_
        refine hR.2.1 _ _ _ _ _ _ eX12_wrongKept_41 rfl rfl ?_
        exact zq hQ (by simp only [mrK]; simp_all [-Int32.not_le, -Int32.not_lt])
      · refine zr_iconst hE eX12_wrongKept_35 (v := 0) (by decide) ?_
        refine zr_goto hE eX12_wrongKept_36 (tgt := 41) (by decide) ?_
        refine hR.2.1 _ _ _ _ _ _ eX12_wrongKept_41 rfl rfl ?_
        exact zq hQ (by simp only [mrK]; simp_all [-Int32.not_le, -Int32.not_lt])
    · refine zr_bipush hE eX12_wrongKept_20 (v := -11) (by decide) ?_
      refine zr_goto hE eX12_wrongKept_22 (tgt := 41) (by decide) ?_
      refine hR.2.1 _ _ _ _ _ _ eX12_wrongKept_41 rfl rfl ?_
      exact zq hQ (by simp only [mrK]; simp_all [-Int32.not_le, -Int32.not_lt])
  · refine zr_iconst hE eX12_wrongKept_7 (v := -1) (by decide) ?_
    refine zr_goto hE eX12_wrongKept_8 (tgt := 41) (by decide) ?_
    refine hR.2.1 _ _ _ _ _ _ eX12_wrongKept_41 rfl rfl ?_
    exact zq hQ (by simp only [mrK]; simp_all [-Int32.not_le, -Int32.not_lt])

set_option maxHeartbeats 4000000 in
theorem c_X12_narrow {a e : Int32} {w : ww} {Q : Option Value → ww → Prop} (hQ : Q (some (.int (mx 1 (a - e)))) w) : Ct mX12_narrow 1 [.int a, .int e] w Q := by
  refine Ct.of (by decide) (Nat.le_of_ble_eq_true rfl) (fun _ => Nat.le_of_ble_eq_true rfl) (fun G hR => ?_)
  have hE := hR.1
  refine zr_iload_n hE eX12_narrow_0 rfl ?_
  refine zr_iload_n hE eX12_narrow_1 rfl ?_
  refine zr_isub hE eX12_narrow_2 ?_
  refine zr_iconst hE eX12_narrow_3 (v := 1) (by decide) ?_
  refine zr_kicmp_ge hE eX12_narrow_4 (tgt := 11) (by decide) (fun zc4 zd4 => ?_) (fun zc4 zd4 => ?_)
  · refine zr_iload_n hE eX12_narrow_11 rfl ?_
    refine zr_iload_n hE eX12_narrow_12 rfl ?_
    refine zr_isub hE eX12_narrow_13 ?_
    refine hR.2.1 _ _ _ _ _ _ eX12_narrow_14 rfl rfl ?_
    exact zq hQ (by rw [mx_one]; first | rw [if_pos (by assumption)] | rw [if_neg (by assumption)])
  · refine zr_iconst hE eX12_narrow_7 (v := 1) (by decide) ?_
    refine zr_goto hE eX12_narrow_8 (tgt := 14) (by decide) ?_
    refine hR.2.1 _ _ _ _ _ _ eX12_narrow_14 rfl rfl ?_
    exact zq hQ (by rw [mx_one]; first | rw [if_pos (by assumption)] | rw [if_neg (by assumption)])

set_option maxHeartbeats 4000000 in
theorem c_X12_spanOf {a b sa sb : Int32} {w : ww} {Q : Option Value → ww → Prop} (ha : vp_in a 10) (hb : vp_in b 10) (hka : vp_in (mB w 0 a.toNatClampNeg) 8) (hkb : vp_in (mB w 0 b.toNatClampNeg) 8) (hQ : Q (some (.int (fSp (mB w) a.toNatClampNeg sa b.toNatClampNeg sb (w 58 1)))) w) : Ct mX12_spanOf 4 [.ref 57, .int a, .int b, .int sa, .int sb] w Q := by
  refine Ct.of (by decide) (Nat.le_of_ble_eq_true rfl) (fun _ => Nat.le_of_ble_eq_true rfl) (fun G hR => ?_)
  have hE := hR.1
  refine zr_aload_n hE eX12_spanOf_0 rfl ?_
  refine zr_iload_n hE eX12_spanOf_1 rfl ?_
  refine zr_iconst hE eX12_spanOf_2 (v := 3) (by decide) ?_
  refine zr_callV2 hE eX12_spanOf_3 lX12_63 zs57 rfl rfl (by decide) (Nat.le_of_ble_eq_true rfl) (c_X12_get 3 (by assumption) rfl (by decide) ?_)
  refine zr_istore hE eX12_spanOf_6 (by decide) rfl ?_
  refine zr_aload_n hE eX12_spanOf_8 rfl ?_
  refine zr_iload_n hE eX12_spanOf_9 rfl ?_
  refine zr_iconst hE eX12_spanOf_10 (v := 3) (by decide) ?_
  refine zr_callV2 hE eX12_spanOf_11 lX12_63 zs57 rfl rfl (by decide) (Nat.le_of_ble_eq_true rfl) (c_X12_get 3 (by assumption) rfl (by decide) ?_)
  refine zr_istore hE eX12_spanOf_14 (by decide) rfl ?_
  refine zr_aload_n hE eX12_spanOf_16 rfl ?_
  refine zr_iload_n hE eX12_spanOf_17 rfl ?_
  refine zr_iload_n hE eX12_spanOf_18 rfl ?_
  refine zr_callV2 hE eX12_spanOf_19 lX12_85 zs57 rfl rfl (by decide) (Nat.le_of_ble_eq_true rfl) (c_X12_fitsBut ha hb ?_)
  refine zr_bne hE eX12_spanOf_22 (tgt := 27) (by decide) (fun zc22 => ?_) (fun zc22 => ?_)
  · refine zr_aload_n hE eX12_spanOf_27 rfl ?_
    refine zr_iload_n hE eX12_spanOf_28 rfl ?_
    refine zr_iload hE eX12_spanOf_29 rfl ?_
    refine zr_iload_n hE eX12_spanOf_31 rfl ?_
    refine zr_iadd hE eX12_spanOf_32 ?_
    refine zr_callV2 hE eX12_spanOf_33 lX12_71 zs57 rfl rfl (by decide) (Nat.le_of_ble_eq_true rfl) (c_X12_outsideBy ha hka ?_)
    refine zr_aload_n hE eX12_spanOf_36 rfl ?_
    refine zr_iload_n hE eX12_spanOf_37 rfl ?_
    refine zr_iload hE eX12_spanOf_38 rfl ?_
    refine zr_iload hE eX12_spanOf_40 rfl ?_
    refine zr_callS2 hE eX12_spanOf_42 lX12_208 (by decide) (Nat.le_of_ble_eq_true rfl) (c_X12_narrow ?_)
    refine zr_aload_n hE eX12_spanOf_45 rfl ?_
    refine zr_getR hE eX12_spanOf_46 fX12_9 zs57 rfl ?_
    refine zr_iconst hE eX12_spanOf_49 (v := 1) (by decide) ?_
    refine zr_iald hE eX12_spanOf_50 zs58 (by unfold vp_in; decide) ?_
    refine zr_callV3 hE eX12_spanOf_51 lX12_74 zs57 rfl rfl (by decide) (Nat.le_of_ble_eq_true rfl) (c_X12_insideBy hb hkb ?_)
    refine zr_kicmp_gt hE eX12_spanOf_54 (tgt := 59) (by decide) (fun zc54 zd54 => ?_) (fun zc54 zd54 => ?_)
    · refine zr_aload_n hE eX12_spanOf_59 rfl ?_
      refine zr_iload_n hE eX12_spanOf_60 rfl ?_
      refine zr_iload hE eX12_spanOf_61 rfl ?_
      refine zr_iload_n hE eX12_spanOf_63 rfl ?_
      refine zr_callS2 hE eX12_spanOf_64 lX12_208 (by decide) (Nat.le_of_ble_eq_true rfl) (c_X12_narrow ?_)
      refine zr_callV2 hE eX12_spanOf_67 lX12_71 zs57 rfl rfl (by decide) (Nat.le_of_ble_eq_true rfl) (c_X12_outsideBy ha hka ?_)
      refine zr_aload_n hE eX12_spanOf_70 rfl ?_
      refine zr_iload_n hE eX12_spanOf_71 rfl ?_
      refine zr_iload hE eX12_spanOf_72 rfl ?_
      refine zr_iload hE eX12_spanOf_74 rfl ?_
      refine zr_iadd hE eX12_spanOf_76 ?_
      refine zr_aload_n hE eX12_spanOf_77 rfl ?_
      refine zr_getR hE eX12_spanOf_78 fX12_9 zs57 rfl ?_
      refine zr_iconst hE eX12_spanOf_81 (v := 1) (by decide) ?_
      refine zr_iald hE eX12_spanOf_82 zs58 (by unfold vp_in; decide) ?_
      refine zr_callV3 hE eX12_spanOf_83 lX12_74 zs57 rfl rfl (by decide) (Nat.le_of_ble_eq_true rfl) (c_X12_insideBy hb hkb ?_)
      refine zr_kicmp_gt hE eX12_spanOf_86 (tgt := 93) (by decide) (fun zc86 zd86 => ?_) (fun zc86 zd86 => ?_)
      · refine zr_iconst hE eX12_spanOf_93 (v := 0) (by decide) ?_
        refine hR.2.1 _ _ _ _ _ _ eX12_spanOf_94 rfl rfl ?_
        exact zq hQ (by simp only [fSp]; simp_all [-Int32.not_le, -Int32.not_lt])
      · refine zr_iconst hE eX12_spanOf_89 (v := 1) (by decide) ?_
        refine zr_goto hE eX12_spanOf_90 (tgt := 94) (by decide) ?_
        refine hR.2.1 _ _ _ _ _ _ eX12_spanOf_94 rfl rfl ?_
        exact zq hQ (by simp only [fSp]; simp_all [-Int32.not_le, -Int32.not_lt])
    · refine zr_iconst hE eX12_spanOf_57 (v := 2) (by decide) ?_
      refine hR.2.1 _ _ _ _ _ _ eX12_spanOf_58 rfl rfl ?_
      exact zq hQ (by simp only [fSp]; simp_all [-Int32.not_le, -Int32.not_lt])
  · refine zr_iconst hE eX12_spanOf_25 (v := 0) (by decide) ?_
    refine hR.2.1 _ _ _ _ _ _ eX12_spanOf_26 rfl rfl ?_
    exact zq hQ (by simp only [fSp]; simp_all [-Int32.not_le, -Int32.not_lt])

set_option maxHeartbeats 4000000 in
theorem c_X12_priceBy {k f : Int32} {w : ww} {Q : Option Value → ww → Prop} (hkb : vp_in k 8) (hQ : Q (some (.int (coK k f))) w) : Ct mX12_priceBy 1 [.int k, .int f] w Q := by
  refine Ct.of (by decide) (Nat.le_of_ble_eq_true rfl) (fun _ => Nat.le_of_ble_eq_true rfl) (fun G hR => ?_)
  have hE := hR.1
  refine zr_iload_n hE eX12_priceBy_0 rfl ?_
  refine zr_tswK hE eX12_priceBy_1 (1) (43) 44 (1) (by decide) (by decide) (by decide) (by decide) (by decide) (fun zk1_1 => ?_) (fun zk1_1 => ?_)
  · refine zr_iconst hE eX12_priceBy_44 (v := 4) (by decide) ?_
    refine zr_iload_n hE eX12_priceBy_45 rfl ?_
    refine zr_iadd hE eX12_priceBy_46 ?_
    refine hR.2.1 _ _ _ _ _ _ eX12_priceBy_47 rfl rfl ?_
    exact zq hQ (by simp only [coK]; rcases vp8 hkb with q | q | q | q | q | q | q | q <;> simp only [q, tn0, tn1, tn2, tn3, tn4, tn5, tn6, tn7] at * <;> first | rfl | contradiction | (simp_all; done))
  refine zr_tswK hE eX12_priceBy_1 (2) (47) 48 (2) (by decide) (by decide) (by decide) (by decide) (by decide) (fun zk1_2 => ?_) (fun zk1_2 => ?_)
  · refine zr_iconst hE eX12_priceBy_48 (v := 3) (by decide) ?_
    refine hR.2.1 _ _ _ _ _ _ eX12_priceBy_49 rfl rfl ?_
    exact zq hQ (by simp only [coK]; rcases vp8 hkb with q | q | q | q | q | q | q | q <;> simp only [q, tn0, tn1, tn2, tn3, tn4, tn5, tn6, tn7] at * <;> first | rfl | contradiction | (simp_all; done))
  refine zr_tswK hE eX12_priceBy_1 (3) (49) 50 (3) (by decide) (by decide) (by decide) (by decide) (by decide) (fun zk1_3 => ?_) (fun zk1_3 => ?_)
  · refine zr_bipush hE eX12_priceBy_50 (v := 8) (by decide) ?_
    refine hR.2.1 _ _ _ _ _ _ eX12_priceBy_52 rfl rfl ?_
    exact zq hQ (by simp only [coK]; rcases vp8 hkb with q | q | q | q | q | q | q | q <;> simp only [q, tn0, tn1, tn2, tn3, tn4, tn5, tn6, tn7] at * <;> first | rfl | contradiction | (simp_all; done))
  refine zr_tswK hE eX12_priceBy_1 (4) (52) 53 (4) (by decide) (by decide) (by decide) (by decide) (by decide) (fun zk1_4 => ?_) (fun zk1_4 => ?_)
  · refine zr_iconst hE eX12_priceBy_53 (v := 4) (by decide) ?_
    refine zr_iload_n hE eX12_priceBy_54 rfl ?_
    refine zr_iadd hE eX12_priceBy_55 ?_
    refine zr_iconst hE eX12_priceBy_56 (v := 2) (by decide) ?_
    refine zr_idiv hE eX12_priceBy_57 (by decide) ?_
    refine hR.2.1 _ _ _ _ _ _ eX12_priceBy_58 rfl rfl ?_
    exact zq hQ (by simp only [coK]; rcases vp8 hkb with q | q | q | q | q | q | q | q <;> simp only [q, tn0, tn1, tn2, tn3, tn4, tn5, tn6, tn7] at * <;> first | rfl | contradiction | (simp_all; done))
  refine zr_tswK hE eX12_priceBy_1 (5) (58) 59 (5) (by decide) (by decide) (by decide) (by decide) (by decide) (fun zk1_5 => ?_) (fun zk1_5 => ?_)
  · refine zr_bipush hE eX12_priceBy_59 (v := 8) (by decide) ?_
    refine zr_iload_n hE eX12_priceBy_61 rfl ?_
    refine zr_isub hE eX12_priceBy_62 ?_
    refine hR.2.1 _ _ _ _ _ _ eX12_priceBy_63 rfl rfl ?_
    exact zq hQ (by simp only [coK]; rcases vp8 hkb with q | q | q | q | q | q | q | q <;> simp only [q, tn0, tn1, tn2, tn3, tn4, tn5, tn6, tn7] at * <;> first | rfl | contradiction | (simp_all; done))
  refine zr_tswK hE eX12_priceBy_1 (6) (63) 64 (6) (by decide) (by decide) (by decide) (by decide) (by decide) (fun zk1_6 => ?_) (fun zk1_6 => ?_)
  · refine zr_bipush hE eX12_priceBy_64 (v := 13) (by decide) ?_
    refine hR.2.1 _ _ _ _ _ _ eX12_priceBy_66 rfl rfl ?_
    exact zq hQ (by simp only [coK]; rcases vp8 hkb with q | q | q | q | q | q | q | q <;> simp only [q, tn0, tn1, tn2, tn3, tn4, tn5, tn6, tn7] at * <;> first | rfl | contradiction | (simp_all; done))
  refine zr_tswK hE eX12_priceBy_1 (7) (66) 67 (7) (by decide) (by decide) (by decide) (by decide) (by decide) (fun zk1_7 => ?_) (fun zk1_7 => ?_)
  · refine zr_iconst hE eX12_priceBy_67 (v := 3) (by decide) ?_
    refine zr_iload_n hE eX12_priceBy_68 rfl ?_
    refine zr_iconst hE eX12_priceBy_69 (v := 1) (by decide) ?_
    refine zr_iadd hE eX12_priceBy_70 ?_
    refine zr_imul hE eX12_priceBy_71 ?_
    refine hR.2.1 _ _ _ _ _ _ eX12_priceBy_72 rfl rfl ?_
    exact zq hQ (by simp only [coK]; rcases vp8 hkb with q | q | q | q | q | q | q | q <;> simp only [q, tn0, tn1, tn2, tn3, tn4, tn5, tn6, tn7] at * <;> first | rfl | contradiction | (simp_all; done))
  refine zr_tableOut hE eX12_priceBy_1 (tgt := 73) ?_ (by decide) ?_
  · have zm1 := zne zk1_1 (v := 1) (by decide); have zm2 := zne zk1_2 (v := 2) (by decide); have zm3 := zne zk1_3 (v := 3) (by decide); have zm4 := zne zk1_4 (v := 4) (by decide); have zm5 := zne zk1_5 (v := 5) (by decide); have zm6 := zne zk1_6 (v := 6) (by decide); have zm7 := zne zk1_7 (v := 7) (by decide); omega
  refine zr_iconst hE eX12_priceBy_73 (v := 4) (by decide) ?_
  refine hR.2.1 _ _ _ _ _ _ eX12_priceBy_74 rfl rfl ?_
  exact zq hQ (by simp only [coK]; rcases vp8 hkb with q | q | q | q | q | q | q | q <;> simp only [q, tn0, tn1, tn2, tn3, tn4, tn5, tn6, tn7] at * <;> first | rfl | contradiction | (simp_all; done))

set_option maxHeartbeats 4000000 in
theorem c_X12_thrown  {w : ww} {Q : Option Value → ww → Prop} (hQ : Q (some (.int (w 57 10))) w) : Ct mX12_thrown 1 [.ref 57] w Q := by
  refine Ct.of (by decide) (Nat.le_of_ble_eq_true rfl) (fun _ => Nat.le_of_ble_eq_true rfl) (fun G hR => ?_)
  have hE := hR.1
  refine zr_aload_n hE eX12_thrown_0 rfl ?_
  refine zr_getI hE eX12_thrown_1 fX12_49 zs57 rfl ?_
  refine hR.2.1 _ _ _ _ _ _ eX12_thrown_4 rfl rfl ?_
  exact hQ

