/-! A heap's bowls as numbers; contracts of the heap's plain methods. -/
theorem zb1 {b : Bool} (h : b = true) : bi b = 1 := by rw [h]; rfl
theorem zb0 {b : Bool} (h : b = false) : bi b = 0 := by rw [h]; rfl
theorem zlt_le {x y : Int32} (h : y < x) : ¬ x ≤ y := Int32.not_le.mpr h
theorem zle_lt {x y : Int32} (h : y ≤ x) : ¬ x < y := Int32.not_lt.mpr h
abbrev zBv : Type := Nat → Nat → Int32
def hB (w : ww) (h : Nat) : zBv := fun k b => w (h + 1 + k) b
theorem hB0 (w : ww) (h b : Nat) : hB w h 0 b = w (h + 1) b := rfl
theorem hB1 (w : ww) (h b : Nat) : hB w h 1 b = w (h + 2) b := rfl
theorem hB2 (w : ww) (h b : Nat) : hB w h 2 b = w (h + 3) b := rfl
theorem hB3 (w : ww) (h b : Nat) : hB w h 3 b = w (h + 4) b := rfl
theorem hB4 (w : ww) (h b : Nat) : hB w h 4 b = w (h + 5) b := rfl
def fOut (B : zBv) (b : Nat) (hairs : Int32) : Int32 := outK (B 0 b) hairs (B 1 b) (B 2 b)
def fIn (B : zBv) (b : Nat) (hairs warm : Int32) : Int32 := inK (B 0 b) hairs (B 1 b) (B 2 b) warm
def fRi (B : zBv) (b : Nat) : Int32 := riK (B 0 b) (B 1 b)
def fAg (B : zBv) (a b : Nat) : Bool := decide (B 4 a ≤ B 4 b + B 1 b) && (!(miK (B 0 a) && miK (B 0 b)) || decide (B 2 a = B 2 b))
def fLi (B : zBv) (a b : Nat) (warm : Int32) : Bool := fAg B a b && decide (fOut B a (B 3 a) ≤ fIn B b (B 3 b) warm)
def fSp (B : zBv) (a : Nat) (sa : Int32) (b : Nat) (sb warm : Int32) : Int32 := if fAg B a b = false then 0 else
  if fOut B a (B 3 a + sa) ≤ fIn B b (mx 1 (B 3 b - sb)) warm then 2 else if fOut B a (mx 1 (B 3 a - sa)) ≤ fIn B b (B 3 b + sb) warm then 1 else 0
set_option maxHeartbeats 4000000 in
theorem c_X5_has {h : Nat} {b : Int32} {w : ww} {Q : Option Value → ww → Prop} (hh : zH h)  (hQ : Q (some (.int (bi (decide (0 ≤ b) && decide (b < w h 7))))) w) : Ct mX5_has 1 [.ref h, .int b] w Q := by
  refine Ct.of (by decide) (Nat.le_of_ble_eq_true rfl) (fun _ => Nat.le_of_ble_eq_true rfl) (fun G hR => ?_)
  have hE := hR.1
  refine zr_iload_n hE eX5_has_0 rfl ?_
  refine zr_kif_lt hE eX5_has_1 (tgt := 16) (by decide) (fun zc1 zd1 => ?_) (fun zc1 zd1 => ?_)
  · refine zr_iconst hE eX5_has_16 (v := 0) (by decide) ?_
    refine hR.2.1 _ _ _ _ _ _ eX5_has_17 rfl rfl ?_
    exact zq hQ (zb0 (by simp_all [-Int32.not_le, -Int32.not_lt]))
  · refine zr_iload_n hE eX5_has_4 rfl ?_
    refine zr_aload_n hE eX5_has_5 rfl ?_
    refine zr_getI hE eX5_has_6 fX5_34 (hh).s0 rfl ?_
    refine zr_kicmp_ge hE eX5_has_9 (tgt := 16) (by decide) (fun zc9 zd9 => ?_) (fun zc9 zd9 => ?_)
    · refine zr_iconst hE eX5_has_16 (v := 0) (by decide) ?_
      refine hR.2.1 _ _ _ _ _ _ eX5_has_17 rfl rfl ?_
      exact zq hQ (zb0 (by simp_all [-Int32.not_le, -Int32.not_lt]))
    · refine zr_iconst hE eX5_has_12 (v := 1) (by decide) ?_
      refine zr_goto hE eX5_has_13 (tgt := 17) (by decide) ?_
      refine hR.2.1 _ _ _ _ _ _ eX5_has_17 rfl rfl ?_
      exact zq hQ (zb1 (by simp_all [-Int32.not_le, -Int32.not_lt]))

set_option maxHeartbeats 4000000 in
theorem c_X5_all {h : Nat} {w : ww} {Q : Option Value → ww → Prop} (hh : zH h)  (hQ : Q (some (.int ((1 <<< (w h 7 &&& 31)) - 1))) w) : Ct mX5_all 1 [.ref h] w Q := by
  refine Ct.of (by decide) (Nat.le_of_ble_eq_true rfl) (fun _ => Nat.le_of_ble_eq_true rfl) (fun G hR => ?_)
  have hE := hR.1
  refine zr_iconst hE eX5_all_0 (v := 1) (by decide) ?_
  refine zr_aload_n hE eX5_all_1 rfl ?_
  refine zr_getI hE eX5_all_2 fX5_34 (hh).s0 rfl ?_
  refine zr_ishl hE eX5_all_5 ?_
  refine zr_iconst hE eX5_all_6 (v := 1) (by decide) ?_
  refine zr_isub hE eX5_all_7 ?_
  refine hR.2.1 _ _ _ _ _ _ eX5_all_8 rfl rfl ?_
  exact hQ

set_option maxHeartbeats 4000000 in
theorem c_X5_outsideAt {h : Nat} {b s : Int32} {w : ww} {Q : Option Value → ww → Prop} (hh : zH h) (hb : vp_in b 10) (hk : vp_in (w (h+1) b.toNatClampNeg) 8) (hQ : Q (some (.int (fOut (hB w h) b.toNatClampNeg s))) w) : Ct mX5_outsideAt 4 [.ref h, .int b, .int s] w Q := by
  refine Ct.of (by decide) (Nat.le_of_ble_eq_true rfl) (fun _ => Nat.le_of_ble_eq_true rfl) (fun G hR => ?_)
  have hE := hR.1
  refine zr_aload_n hE eX5_outsideAt_0 rfl ?_
  refine zr_getR hE eX5_outsideAt_1 fX5_30 (hh).s0 rfl ?_
  refine zr_aload_n hE eX5_outsideAt_4 rfl ?_
  refine zr_getR hE eX5_outsideAt_5 fX5_11 (hh).s0 rfl ?_
  refine zr_iload_n hE eX5_outsideAt_8 rfl ?_
  refine zr_iald hE eX5_outsideAt_9 (hh).s1 (by assumption) ?_
  refine zr_kinds hE eX5_outsideAt_10 (by assumption) ?_
  refine zr_iload_n hE eX5_outsideAt_11 rfl ?_
  refine zr_aload_n hE eX5_outsideAt_12 rfl ?_
  refine zr_getR hE eX5_outsideAt_13 fX5_15 (hh).s0 rfl ?_
  refine zr_iload_n hE eX5_outsideAt_16 rfl ?_
  refine zr_iald hE eX5_outsideAt_17 (hh).s2 (by assumption) ?_
  refine zr_aload_n hE eX5_outsideAt_18 rfl ?_
  refine zr_getR hE eX5_outsideAt_19 fX5_18 (hh).s0 rfl ?_
  refine zr_iload_n hE eX5_outsideAt_22 rfl ?_
  refine zr_iald hE eX5_outsideAt_23 (hh).s3 (by assumption) ?_
  refine zr_vX5_outside hE eX5_outsideAt_24 (by assumption) (by decide) (Nat.le_of_ble_eq_true rfl) ?_
  refine hR.2.1 _ _ _ _ _ _ eX5_outsideAt_27 rfl rfl ?_
  exact hQ

set_option maxHeartbeats 4000000 in
theorem c_X5_insideAt {h : Nat} {b s v : Int32} {w : ww} {Q : Option Value → ww → Prop} (hh : zH h) (hb : vp_in b 10) (hk : vp_in (w (h+1) b.toNatClampNeg) 8) (hQ : Q (some (.int (fIn (hB w h) b.toNatClampNeg s v))) w) : Ct mX5_insideAt 4 [.ref h, .int b, .int s, .int v] w Q := by
  refine Ct.of (by decide) (Nat.le_of_ble_eq_true rfl) (fun _ => Nat.le_of_ble_eq_true rfl) (fun G hR => ?_)
  have hE := hR.1
  refine zr_aload_n hE eX5_insideAt_0 rfl ?_
  refine zr_getR hE eX5_insideAt_1 fX5_30 (hh).s0 rfl ?_
  refine zr_aload_n hE eX5_insideAt_4 rfl ?_
  refine zr_getR hE eX5_insideAt_5 fX5_11 (hh).s0 rfl ?_
  refine zr_iload_n hE eX5_insideAt_8 rfl ?_
  refine zr_iald hE eX5_insideAt_9 (hh).s1 (by assumption) ?_
  refine zr_kinds hE eX5_insideAt_10 (by assumption) ?_
  refine zr_iload_n hE eX5_insideAt_11 rfl ?_
  refine zr_aload_n hE eX5_insideAt_12 rfl ?_
  refine zr_getR hE eX5_insideAt_13 fX5_15 (hh).s0 rfl ?_
  refine zr_iload_n hE eX5_insideAt_16 rfl ?_
  refine zr_iald hE eX5_insideAt_17 (hh).s2 (by assumption) ?_
  refine zr_aload_n hE eX5_insideAt_18 rfl ?_
  refine zr_getR hE eX5_insideAt_19 fX5_18 (hh).s0 rfl ?_
  refine zr_iload_n hE eX5_insideAt_22 rfl ?_
  refine zr_iald hE eX5_insideAt_23 (hh).s3 (by assumption) ?_
  refine zr_iload_n hE eX5_insideAt_24 rfl ?_
  refine zr_vX5_inside hE eX5_insideAt_25 (by assumption) (by decide) (Nat.le_of_ble_eq_true rfl) ?_
  refine hR.2.1 _ _ _ _ _ _ eX5_insideAt_28 rfl rfl ?_
  exact hQ

set_option maxHeartbeats 4000000 in
theorem c_X5_riseOf {h : Nat} {b : Int32} {w : ww} {Q : Option Value → ww → Prop} (hh : zH h) (hb : vp_in b 10) (hk : vp_in (w (h+1) b.toNatClampNeg) 8) (hQ : Q (some (.int (fRi (hB w h) b.toNatClampNeg))) w) : Ct mX5_riseOf 4 [.ref h, .int b] w Q := by
  refine Ct.of (by decide) (Nat.le_of_ble_eq_true rfl) (fun _ => Nat.le_of_ble_eq_true rfl) (fun G hR => ?_)
  have hE := hR.1
  refine zr_aload_n hE eX5_riseOf_0 rfl ?_
  refine zr_getR hE eX5_riseOf_1 fX5_30 (hh).s0 rfl ?_
  refine zr_aload_n hE eX5_riseOf_4 rfl ?_
  refine zr_getR hE eX5_riseOf_5 fX5_11 (hh).s0 rfl ?_
  refine zr_iload_n hE eX5_riseOf_8 rfl ?_
  refine zr_iald hE eX5_riseOf_9 (hh).s1 (by assumption) ?_
  refine zr_kinds hE eX5_riseOf_10 (by assumption) ?_
  refine zr_aload_n hE eX5_riseOf_11 rfl ?_
  refine zr_getR hE eX5_riseOf_12 fX5_15 (hh).s0 rfl ?_
  refine zr_iload_n hE eX5_riseOf_15 rfl ?_
  refine zr_iald hE eX5_riseOf_16 (hh).s2 (by assumption) ?_
  refine zr_vX5_rise hE eX5_riseOf_17 (by assumption) (by decide) (Nat.le_of_ble_eq_true rfl) ?_
  refine hR.2.1 _ _ _ _ _ _ eX5_riseOf_20 rfl rfl ?_
  exact hQ

set_option maxHeartbeats 4000000 in
theorem c_X5_agree {h : Nat} {a b : Int32} {w : ww} {Q : Option Value → ww → Prop} (hh : zH h) (ha : vp_in a 10) (hb : vp_in b 10) (hka : vp_in (w (h+1) a.toNatClampNeg) 8) (hkb : vp_in (w (h+1) b.toNatClampNeg) 8) (hQ : Q (some (.int (bi (fAg (hB w h) a.toNatClampNeg b.toNatClampNeg)))) w) : Ct mX5_agree 4 [.ref h, .int a, .int b] w Q := by
  refine Ct.of (by decide) (Nat.le_of_ble_eq_true rfl) (fun _ => Nat.le_of_ble_eq_true rfl) (fun G hR => ?_)
  have hE := hR.1
  refine zr_aload_n hE eX5_agree_0 rfl ?_
  refine zr_getR hE eX5_agree_1 fX5_30 (hh).s0 rfl ?_
  refine zr_aload_n hE eX5_agree_4 rfl ?_
  refine zr_getR hE eX5_agree_5 fX5_11 (hh).s0 rfl ?_
  refine zr_iload_n hE eX5_agree_8 rfl ?_
  refine zr_iald hE eX5_agree_9 (hh).s1 (by assumption) ?_
  refine zr_kinds hE eX5_agree_10 (by assumption) ?_
  refine zr_vX5_minds hE eX5_agree_11 (by assumption) (by decide) (Nat.le_of_ble_eq_true rfl) ?_
  refine zr_beq hE eX5_agree_14 (tgt := 38) (by decide) (fun zc14 => ?_) (fun zc14 => ?_)
  · refine zr_iconst hE eX5_agree_38 (v := 0) (by decide) ?_
    refine zr_istore_n hE eX5_agree_39 (by decide) rfl ?_
    refine zr_aload_n hE eX5_agree_40 rfl ?_
    refine zr_getR hE eX5_agree_41 fX5_24 (hh).s0 rfl ?_
    refine zr_iload_n hE eX5_agree_44 rfl ?_
    refine zr_iald hE eX5_agree_45 (hh).s5 (by assumption) ?_
    refine zr_aload_n hE eX5_agree_46 rfl ?_
    refine zr_getR hE eX5_agree_47 fX5_24 (hh).s0 rfl ?_
    refine zr_iload_n hE eX5_agree_50 rfl ?_
    refine zr_iald hE eX5_agree_51 (hh).s5 (by assumption) ?_
    refine zr_aload_n hE eX5_agree_52 rfl ?_
    refine zr_getR hE eX5_agree_53 fX5_15 (hh).s0 rfl ?_
    refine zr_iload_n hE eX5_agree_56 rfl ?_
    refine zr_iald hE eX5_agree_57 (hh).s2 (by assumption) ?_
    refine zr_iadd hE eX5_agree_58 ?_
    refine zr_kicmp_gt hE eX5_agree_59 (tgt := 85) (by decide) (fun zc59 zd59 => ?_) (fun zc59 zd59 => ?_)
    · refine zr_iconst hE eX5_agree_85 (v := 0) (by decide) ?_
      refine hR.2.1 _ _ _ _ _ _ eX5_agree_86 rfl rfl ?_
      exact zq hQ (zb0 (by simp only [fAg, hB0, hB1, hB2, hB3, hB4]; simp_all [-Int32.not_le, -Int32.not_lt]))
    · refine zr_iload_n hE eX5_agree_62 rfl ?_
      refine zr_if_eq hE eX5_agree_63 (tgt := 81) (by decide) (fun _ => ?_) (fun zc63 => absurd zc63 (by decide))
      refine zr_iconst hE eX5_agree_81 (v := 1) (by decide) ?_
      refine zr_goto hE eX5_agree_82 (tgt := 86) (by decide) ?_
      refine hR.2.1 _ _ _ _ _ _ eX5_agree_86 rfl rfl ?_
      exact zq hQ (zb1 (by simp only [fAg, hB0, hB1, hB2, hB3, hB4]; simp_all [-Int32.not_le, -Int32.not_lt]))
  · refine zr_aload_n hE eX5_agree_17 rfl ?_
    refine zr_getR hE eX5_agree_18 fX5_30 (hh).s0 rfl ?_
    refine zr_aload_n hE eX5_agree_21 rfl ?_
    refine zr_getR hE eX5_agree_22 fX5_11 (hh).s0 rfl ?_
    refine zr_iload_n hE eX5_agree_25 rfl ?_
    refine zr_iald hE eX5_agree_26 (hh).s1 (by assumption) ?_
    refine zr_kinds hE eX5_agree_27 (by assumption) ?_
    refine zr_vX5_minds hE eX5_agree_28 (by assumption) (by decide) (Nat.le_of_ble_eq_true rfl) ?_
    refine zr_beq hE eX5_agree_31 (tgt := 38) (by decide) (fun zc31 => ?_) (fun zc31 => ?_)
    · refine zr_iconst hE eX5_agree_38 (v := 0) (by decide) ?_
      refine zr_istore_n hE eX5_agree_39 (by decide) rfl ?_
      refine zr_aload_n hE eX5_agree_40 rfl ?_
      refine zr_getR hE eX5_agree_41 fX5_24 (hh).s0 rfl ?_
      refine zr_iload_n hE eX5_agree_44 rfl ?_
      refine zr_iald hE eX5_agree_45 (hh).s5 (by assumption) ?_
      refine zr_aload_n hE eX5_agree_46 rfl ?_
      refine zr_getR hE eX5_agree_47 fX5_24 (hh).s0 rfl ?_
      refine zr_iload_n hE eX5_agree_50 rfl ?_
      refine zr_iald hE eX5_agree_51 (hh).s5 (by assumption) ?_
      refine zr_aload_n hE eX5_agree_52 rfl ?_
      refine zr_getR hE eX5_agree_53 fX5_15 (hh).s0 rfl ?_
      refine zr_iload_n hE eX5_agree_56 rfl ?_
      refine zr_iald hE eX5_agree_57 (hh).s2 (by assumption) ?_
      refine zr_iadd hE eX5_agree_58 ?_
      refine zr_kicmp_gt hE eX5_agree_59 (tgt := 85) (by decide) (fun zc59 zd59 => ?_) (fun zc59 zd59 => ?_)
      · refine zr_iconst hE eX5_agree_85 (v := 0) (by decide) ?_
        refine hR.2.1 _ _ _ _ _ _ eX5_agree_86 rfl rfl ?_
        exact zq hQ (zb0 (by simp only [fAg, hB0, hB1, hB2, hB3, hB4]; simp_all [-Int32.not_le, -Int32.not_lt]))
      · refine zr_iload_n hE eX5_agree_62 rfl ?_
        refine zr_if_eq hE eX5_agree_63 (tgt := 81) (by decide) (fun _ => ?_) (fun zc63 => absurd zc63 (by decide))
        refine zr_iconst hE eX5_agree_81 (v := 1) (by decide) ?_
        refine zr_goto hE eX5_agree_82 (tgt := 86) (by decide) ?_
        refine hR.2.1 _ _ _ _ _ _ eX5_agree_86 rfl rfl ?_
        exact zq hQ (zb1 (by simp only [fAg, hB0, hB1, hB2, hB3, hB4]; simp_all [-Int32.not_le, -Int32.not_lt]))
    · refine zr_iconst hE eX5_agree_34 (v := 1) (by decide) ?_
      refine zr_goto hE eX5_agree_35 (tgt := 39) (by decide) ?_
      refine zr_istore_n hE eX5_agree_39 (by decide) rfl ?_
      refine zr_aload_n hE eX5_agree_40 rfl ?_
      refine zr_getR hE eX5_agree_41 fX5_24 (hh).s0 rfl ?_
      refine zr_iload_n hE eX5_agree_44 rfl ?_
      refine zr_iald hE eX5_agree_45 (hh).s5 (by assumption) ?_
      refine zr_aload_n hE eX5_agree_46 rfl ?_
      refine zr_getR hE eX5_agree_47 fX5_24 (hh).s0 rfl ?_
      refine zr_iload_n hE eX5_agree_50 rfl ?_
      refine zr_iald hE eX5_agree_51 (hh).s5 (by assumption) ?_
      refine zr_aload_n hE eX5_agree_52 rfl ?_
      refine zr_getR hE eX5_agree_53 fX5_15 (hh).s0 rfl ?_
      refine zr_iload_n hE eX5_agree_56 rfl ?_
      refine zr_iald hE eX5_agree_57 (hh).s2 (by assumption) ?_
      refine zr_iadd hE eX5_agree_58 ?_
      refine zr_kicmp_gt hE eX5_agree_59 (tgt := 85) (by decide) (fun zc59 zd59 => ?_) (fun zc59 zd59 => ?_)
      · refine zr_iconst hE eX5_agree_85 (v := 0) (by decide) ?_
        refine hR.2.1 _ _ _ _ _ _ eX5_agree_86 rfl rfl ?_
        exact zq hQ (zb0 (by simp only [fAg, hB0, hB1, hB2, hB3, hB4]; simp_all [-Int32.not_le, -Int32.not_lt]))
      · refine zr_iload_n hE eX5_agree_62 rfl ?_
        refine zr_if_eq hE eX5_agree_63 (tgt := 81) (by decide) (fun zc63 => absurd zc63 (by decide)) (fun _ => ?_)
        refine zr_aload_n hE eX5_agree_66 rfl ?_
        refine zr_getR hE eX5_agree_67 fX5_18 (hh).s0 rfl ?_
        refine zr_iload_n hE eX5_agree_70 rfl ?_
        refine zr_iald hE eX5_agree_71 (hh).s3 (by assumption) ?_
        refine zr_aload_n hE eX5_agree_72 rfl ?_
        refine zr_getR hE eX5_agree_73 fX5_18 (hh).s0 rfl ?_
        refine zr_iload_n hE eX5_agree_76 rfl ?_
        refine zr_iald hE eX5_agree_77 (hh).s3 (by assumption) ?_
        refine zr_icmp_ne hE eX5_agree_78 (tgt := 85) (by decide) (fun zc78 => ?_) (fun zc78 => ?_)
        · refine zr_iconst hE eX5_agree_85 (v := 0) (by decide) ?_
          refine hR.2.1 _ _ _ _ _ _ eX5_agree_86 rfl rfl ?_
          exact zq hQ (zb0 (by simp only [fAg, hB0, hB1, hB2, hB3, hB4]; simp_all [-Int32.not_le, -Int32.not_lt]))
        · refine zr_iconst hE eX5_agree_81 (v := 1) (by decide) ?_
          refine zr_goto hE eX5_agree_82 (tgt := 86) (by decide) ?_
          refine hR.2.1 _ _ _ _ _ _ eX5_agree_86 rfl rfl ?_
          exact zq hQ (zb1 (by simp only [fAg, hB0, hB1, hB2, hB3, hB4]; simp_all [-Int32.not_le, -Int32.not_lt]))

set_option maxHeartbeats 4000000 in
theorem c_X5_isIn {h : Nat} {a b v : Int32} {w : ww} {Q : Option Value → ww → Prop} (hh : zH h) (ha : vp_in a 10) (hb : vp_in b 10) (hka : vp_in (w (h+1) a.toNatClampNeg) 8) (hkb : vp_in (w (h+1) b.toNatClampNeg) 8) (hQ : Q (some (.int (bi (fLi (hB w h) a.toNatClampNeg b.toNatClampNeg v)))) w) : Ct mX5_isIn 5 [.ref h, .int a, .int b, .int v] w Q := by
  refine Ct.of (by decide) (Nat.le_of_ble_eq_true rfl) (fun _ => Nat.le_of_ble_eq_true rfl) (fun G hR => ?_)
  have hE := hR.1
  refine zr_aload_n hE eX5_isIn_0 rfl ?_
  refine zr_iload_n hE eX5_isIn_1 rfl ?_
  refine zr_iload_n hE eX5_isIn_2 rfl ?_
  refine zr_callV2 hE eX5_isIn_3 lX5_95 (hh).s0 rfl rfl (by decide) (Nat.le_of_ble_eq_true rfl) (c_X5_agree hh ha hb hka hkb ?_)
  refine zr_beq hE eX5_isIn_6 (tgt := 39) (by decide) (fun zc6 => ?_) (fun zc6 => ?_)
  · refine zr_iconst hE eX5_isIn_39 (v := 0) (by decide) ?_
    refine hR.2.1 _ _ _ _ _ _ eX5_isIn_40 rfl rfl ?_
    exact zq hQ (zb0 (by simp only [fLi, hB3]; simp_all [-Int32.not_le, -Int32.not_lt]))
  · refine zr_aload_n hE eX5_isIn_9 rfl ?_
    refine zr_iload_n hE eX5_isIn_10 rfl ?_
    refine zr_aload_n hE eX5_isIn_11 rfl ?_
    refine zr_getR hE eX5_isIn_12 fX5_21 (hh).s0 rfl ?_
    refine zr_iload_n hE eX5_isIn_15 rfl ?_
    refine zr_iald hE eX5_isIn_16 (hh).s4 (by assumption) ?_
    refine zr_callV2 hE eX5_isIn_17 lX5_99 (hh).s0 rfl rfl (by decide) (Nat.le_of_ble_eq_true rfl) (c_X5_outsideAt hh (by assumption) (by assumption) ?_)
    refine zr_aload_n hE eX5_isIn_20 rfl ?_
    refine zr_iload_n hE eX5_isIn_21 rfl ?_
    refine zr_aload_n hE eX5_isIn_22 rfl ?_
    refine zr_getR hE eX5_isIn_23 fX5_21 (hh).s0 rfl ?_
    refine zr_iload_n hE eX5_isIn_26 rfl ?_
    refine zr_iald hE eX5_isIn_27 (hh).s4 (by assumption) ?_
    refine zr_iload_n hE eX5_isIn_28 rfl ?_
    refine zr_callV3 hE eX5_isIn_29 lX5_103 (hh).s0 rfl rfl (by decide) (Nat.le_of_ble_eq_true rfl) (c_X5_insideAt hh (by assumption) (by assumption) ?_)
    refine zr_kicmp_gt hE eX5_isIn_32 (tgt := 39) (by decide) (fun zc32 zd32 => ?_) (fun zc32 zd32 => ?_)
    · refine zr_iconst hE eX5_isIn_39 (v := 0) (by decide) ?_
      refine hR.2.1 _ _ _ _ _ _ eX5_isIn_40 rfl rfl ?_
      exact zq hQ (zb0 (by simp only [fLi, hB3]; simp_all [-Int32.not_le, -Int32.not_lt]))
    · refine zr_iconst hE eX5_isIn_35 (v := 1) (by decide) ?_
      refine zr_goto hE eX5_isIn_36 (tgt := 40) (by decide) ?_
      refine hR.2.1 _ _ _ _ _ _ eX5_isIn_40 rfl rfl ?_
      exact zq hQ (zb1 (by simp only [fLi, hB3]; simp_all [-Int32.not_le, -Int32.not_lt]))

set_option maxHeartbeats 4000000 in
theorem c_X5_spanned {h : Nat} {a sa b sb : Int32} {w : ww} {Q : Option Value → ww → Prop} (hh : zH h) (ha : vp_in a 10) (hb : vp_in b 10) (hka : vp_in (w (h+1) a.toNatClampNeg) 8) (hkb : vp_in (w (h+1) b.toNatClampNeg) 8) (hQ : Q (some (.int (fSp (hB w h) a.toNatClampNeg sa b.toNatClampNeg sb (w h 8)))) w) : Ct mX5_spanned 5 [.ref h, .int a, .int sa, .int b, .int sb] w Q := by
  refine Ct.of (by decide) (Nat.le_of_ble_eq_true rfl) (fun _ => Nat.le_of_ble_eq_true rfl) (fun G hR => ?_)
  have hE := hR.1
  refine zr_aload_n hE eX5_spanned_0 rfl ?_
  refine zr_iload_n hE eX5_spanned_1 rfl ?_
  refine zr_iload_n hE eX5_spanned_2 rfl ?_
  refine zr_callV2 hE eX5_spanned_3 lX5_95 (hh).s0 rfl rfl (by decide) (Nat.le_of_ble_eq_true rfl) (c_X5_agree hh ha hb hka hkb ?_)
  refine zr_bne hE eX5_spanned_6 (tgt := 11) (by decide) (fun zc6 => ?_) (fun zc6 => ?_)
  · refine zr_aload_n hE eX5_spanned_11 rfl ?_
    refine zr_iload_n hE eX5_spanned_12 rfl ?_
    refine zr_iconst hE eX5_spanned_13 (v := 1) (by decide) ?_
    refine zr_aload_n hE eX5_spanned_14 rfl ?_
    refine zr_getR hE eX5_spanned_15 fX5_21 (hh).s0 rfl ?_
    refine zr_iload_n hE eX5_spanned_18 rfl ?_
    refine zr_iald hE eX5_spanned_19 (hh).s4 (by assumption) ?_
    refine zr_iload_n hE eX5_spanned_20 rfl ?_
    refine zr_isub hE eX5_spanned_21 ?_
    refine zr_mmax hE eX5_spanned_22 lmX5_109 (by decide) (Nat.le_of_ble_eq_true rfl) ?_
    refine zr_callV2 hE eX5_spanned_25 lX5_99 (hh).s0 rfl rfl (by decide) (Nat.le_of_ble_eq_true rfl) (c_X5_outsideAt hh (by assumption) (by assumption) ?_)
    refine zr_istore hE eX5_spanned_28 (by decide) rfl ?_
    refine zr_aload_n hE eX5_spanned_30 rfl ?_
    refine zr_iload_n hE eX5_spanned_31 rfl ?_
    refine zr_aload_n hE eX5_spanned_32 rfl ?_
    refine zr_getR hE eX5_spanned_33 fX5_21 (hh).s0 rfl ?_
    refine zr_iload_n hE eX5_spanned_36 rfl ?_
    refine zr_iald hE eX5_spanned_37 (hh).s4 (by assumption) ?_
    refine zr_iload_n hE eX5_spanned_38 rfl ?_
    refine zr_iadd hE eX5_spanned_39 ?_
    refine zr_callV2 hE eX5_spanned_40 lX5_99 (hh).s0 rfl rfl (by decide) (Nat.le_of_ble_eq_true rfl) (c_X5_outsideAt hh (by assumption) (by assumption) ?_)
    refine zr_istore hE eX5_spanned_43 (by decide) rfl ?_
    refine zr_aload_n hE eX5_spanned_45 rfl ?_
    refine zr_iload_n hE eX5_spanned_46 rfl ?_
    refine zr_iconst hE eX5_spanned_47 (v := 1) (by decide) ?_
    refine zr_aload_n hE eX5_spanned_48 rfl ?_
    refine zr_getR hE eX5_spanned_49 fX5_21 (hh).s0 rfl ?_
    refine zr_iload_n hE eX5_spanned_52 rfl ?_
    refine zr_iald hE eX5_spanned_53 (hh).s4 (by assumption) ?_
    refine zr_iload hE eX5_spanned_54 rfl ?_
    refine zr_isub hE eX5_spanned_56 ?_
    refine zr_mmax hE eX5_spanned_57 lmX5_109 (by decide) (Nat.le_of_ble_eq_true rfl) ?_
    refine zr_aload_n hE eX5_spanned_60 rfl ?_
    refine zr_getI hE eX5_spanned_61 fX5_38 (hh).s0 rfl ?_
    refine zr_callV3 hE eX5_spanned_64 lX5_103 (hh).s0 rfl rfl (by decide) (Nat.le_of_ble_eq_true rfl) (c_X5_insideAt hh (by assumption) (by assumption) ?_)
    refine zr_istore hE eX5_spanned_67 (by decide) rfl ?_
    refine zr_aload_n hE eX5_spanned_69 rfl ?_
    refine zr_iload_n hE eX5_spanned_70 rfl ?_
    refine zr_aload_n hE eX5_spanned_71 rfl ?_
    refine zr_getR hE eX5_spanned_72 fX5_21 (hh).s0 rfl ?_
    refine zr_iload_n hE eX5_spanned_75 rfl ?_
    refine zr_iald hE eX5_spanned_76 (hh).s4 (by assumption) ?_
    refine zr_iload hE eX5_spanned_77 rfl ?_
    refine zr_iadd hE eX5_spanned_79 ?_
    refine zr_aload_n hE eX5_spanned_80 rfl ?_
    refine zr_getI hE eX5_spanned_81 fX5_38 (hh).s0 rfl ?_
    refine zr_callV3 hE eX5_spanned_84 lX5_103 (hh).s0 rfl rfl (by decide) (Nat.le_of_ble_eq_true rfl) (c_X5_insideAt hh (by assumption) (by assumption) ?_)
    refine zr_istore hE eX5_spanned_87 (by decide) rfl ?_
    refine zr_iload hE eX5_spanned_89 rfl ?_
    refine zr_iload hE eX5_spanned_91 rfl ?_
    refine zr_kicmp_gt hE eX5_spanned_93 (tgt := 98) (by decide) (fun zc93 zd93 => ?_) (fun zc93 zd93 => ?_)
    · refine zr_iload hE eX5_spanned_98 rfl ?_
      refine zr_iload hE eX5_spanned_100 rfl ?_
      refine zr_kicmp_gt hE eX5_spanned_102 (tgt := 109) (by decide) (fun zc102 zd102 => ?_) (fun zc102 zd102 => ?_)
      · refine zr_iconst hE eX5_spanned_109 (v := 0) (by decide) ?_
        refine hR.2.1 _ _ _ _ _ _ eX5_spanned_110 rfl rfl ?_
        exact zq hQ (by simp only [fSp, hB3]; simp_all [-Int32.not_le, -Int32.not_lt])
      · refine zr_iconst hE eX5_spanned_105 (v := 1) (by decide) ?_
        refine zr_goto hE eX5_spanned_106 (tgt := 110) (by decide) ?_
        refine hR.2.1 _ _ _ _ _ _ eX5_spanned_110 rfl rfl ?_
        exact zq hQ (by simp only [fSp, hB3]; simp_all [-Int32.not_le, -Int32.not_lt])
    · refine zr_iconst hE eX5_spanned_96 (v := 2) (by decide) ?_
      refine hR.2.1 _ _ _ _ _ _ eX5_spanned_97 rfl rfl ?_
      exact zq hQ (by simp only [fSp, hB3]; simp_all [-Int32.not_le, -Int32.not_lt])
  · refine zr_iconst hE eX5_spanned_9 (v := 0) (by decide) ?_
    refine hR.2.1 _ _ _ _ _ _ eX5_spanned_10 rfl rfl ?_
    exact zq hQ (by simp only [fSp, hB3]; simp_all [-Int32.not_le, -Int32.not_lt])

