/-! The class's public methods that neither read texts nor think of new bowls. -/
def Scr (p : Nat) : Prop := p = 16 ∨ (17 ≤ p ∧ p ≤ 23) ∨ p = 30 ∨ (31 ≤ p ∧ p ≤ 39)
def SC (w u : ww) : Prop := ∀ p, ¬ Scr p → u p = w p
theorem SC.rf (w : ww) : SC w w := fun _ _ => rfl
/-- the bowls that there are: how many, their kinds -/
def Now (w : ww) (c : Nat) : Prop := c ≤ 9 ∧ w 10 7 = nI c ∧ ∀ b, b < c → vp_in (w 11 b) 8
theorem areB {b : Int32} {c : Nat} (hc : c ≤ 9) : b &&& ((1 <<< (nI c &&& 31)) - 1 ^^^ (-1)) = 0 ↔ ∃ t, t < 2 ^ c ∧ b = nI t := by
  rw [nb_all c (by omega)]
  have hM : 2 ^ c ≤ 2 ^ 9 := Nat.pow_le_pow_right (by decide) hc
  have hM0 : 0 < 2 ^ c := Nat.pow_pos (by decide)
  obtain ⟨t, ht, rfl⟩ : ∃ t, t < 2 ^ 32 ∧ b = nI t := ⟨b.toBitVec.toNat, b.toBitVec.isLt, Int32.toBitVec_inj.mp (by show _ = BitVec.ofNat 32 _; simp)⟩
  rw [nb_dif]
  constructor
  · intro h
    have h0 : nDif t (2 ^ c - 1) = 0 := by
      have hle := nDif_le t (2 ^ c - 1)
      have h1 := congrArg (fun z : Int32 => z.toBitVec.toNat) h
      have h2 : (BitVec.ofNat 32 (nDif t (2 ^ c - 1))).toNat = 0 := h1
      rw [BitVec.toNat_ofNat, Nat.mod_eq_of_lt (by omega)] at h2
      exact h2
    refine ⟨t, Nat.lt_pow_two_of_testBit t (fun i hi => ?_), rfl⟩
    have h2 := tb_dif (a := t) (b := 2 ^ c - 1) (i := i) ht
    rw [h0, Nat.zero_testBit, Nat.testBit_two_pow_sub_one] at h2
    have : decide (i < c) = false := decide_eq_false (by omega)
    rw [this] at h2
    simpa using h2.symm
  · rintro ⟨t2, ht2, e⟩
    have e2 : nDif t2 (2 ^ c - 1) = 0 := by
      apply Nat.eq_of_testBit_eq
      intro i
      rw [tb_dif (by omega), Nat.zero_testBit, Nat.testBit_two_pow_sub_one]
      by_cases q : i < c
      · simp [q]
      · rw [Nat.testBit_lt_two_pow (Nat.lt_of_lt_of_le ht2 (Nat.pow_le_pow_right (by decide) (by omega)))]; rfl
    rw [← nb_dif, e, nb_dif, e2]; rfl
theorem b01 {x : Int32} (h : fIs x 0 1 = true) : x = 0 ∨ x = 1 := by
  simp only [fIs, Bool.and_eq_true, decide_eq_true_eq] at h
  obtain ⟨h0, h1⟩ := h
  rw [Int32.le_iff_toInt_le] at h0 h1
  have e0 : (0 : Int32).toInt = 0 := by decide
  have e1 : (1 : Int32).toInt = 1 := by decide
  rcases (show x.toInt = 0 ∨ x.toInt = 1 by omega) with q | q
  · exact Or.inl (Int32.toInt_inj.mp (by omega))
  · exact Or.inr (Int32.toInt_inj.mp (by omega))
theorem has_of {w : ww} {c : Nat} (hN : Now w c) {b : Int32} (h : 0 ≤ b ∧ b < w 10 7) : vp_in b 10 ∧ vp_in (w 11 b.toNatClampNeg) 8 ∧ b.toNatClampNeg < c := by
  obtain ⟨h1, h2⟩ := has_vp h hN.2.1 (by have := hN.1; omega)
  exact ⟨h1, hN.2.2 _ h2, h2⟩
def bwR (B : zBv) (cnt v b what : Int32) : Int32 := if ¬ (0 ≤ b ∧ b < cnt) then -1 else
  if what = 0 then B 0 b.toNatClampNeg else if what = 1 then B 1 b.toNatClampNeg else if what = 2 then B 2 b.toNatClampNeg else if what = 3 then B 3 b.toNatClampNeg else if what = 4 then B 4 b.toNatClampNeg else
  if what = 5 then fOut B b.toNatClampNeg (B 3 b.toNatClampNeg) else if what = 6 then fIn B b.toNatClampNeg (B 3 b.toNatClampNeg) v else if what = 7 then fRi B b.toNatClampNeg else -1
set_option maxHeartbeats 4000000 in
theorem c_X11_bowl {c : Nat} {b k : Int32} {w : ww} {Q : Option Value → ww → Prop} (hN : Now w c) (hQ : Q (some (.int (bwR (hB w 10) (w 10 7) (w 10 8) b k))) w) : Ct mX11_bowl 5 [.ref 0, .int b, .int k] w Q := by
  refine Ct.of (by decide) (Nat.le_of_ble_eq_true rfl) (fun _ => Nat.le_of_ble_eq_true rfl) (fun G hR => ?_)
  have hE := hR.1
  refine zr_aload_n hE eX11_bowl_0 rfl ?_
  refine zr_getR hE eX11_bowl_1 fX11_42 zs0 rfl ?_
  refine zr_iload_n hE eX11_bowl_4 rfl ?_
  refine zr_callV1 hE eX11_bowl_5 lX11_82 (zH10).s0 rfl rfl (by decide) (Nat.le_of_ble_eq_true rfl) (c_X5_has zH10 ?_)
  refine zr_bne hE eX11_bowl_8 (tgt := 13) (by decide) (fun zc8 => ?_) (fun zc8 => ?_)
  · have hb := has_of hN (b := b) (by simpa using zc8)
    refine zr_iload_n hE eX11_bowl_13 rfl ?_
    refine zr_tswK hE eX11_bowl_14 (0) (46) 60 (0) (by decide) (by decide) (by decide) (by decide) (by decide) (fun zk14_0 => ?_) (fun zk14_0 => ?_)
    · refine zr_aload_n hE eX11_bowl_60 rfl ?_
      refine zr_getR hE eX11_bowl_61 fX11_42 zs0 rfl ?_
      refine zr_getR hE eX11_bowl_64 fX11_86 (zH10).s0 rfl ?_
      refine zr_iload_n hE eX11_bowl_67 rfl ?_
      refine zr_iald hE eX11_bowl_68 (zH10).s1 hb.1 ?_
      refine hR.2.1 _ _ _ _ _ _ eX11_bowl_69 rfl rfl ?_
      first
        | (have q : ¬ (0 ≤ b ∧ b < w 10 7) := by simpa using zc8
           exact zq hQ (by rw [bwR, if_pos q]))
        | (have q : ¬ ¬ (0 ≤ b ∧ b < w 10 7) := by simpa using zc8
           refine zq hQ ?_
           rw [bwR, if_neg q]
           first
             | (subst zk14_0; rfl)
             | (subst zk14_1; rfl)
             | (subst zk14_2; rfl)
             | (subst zk14_3; rfl)
             | (subst zk14_4; rfl)
             | (subst zk14_5; rfl)
             | (subst zk14_6; rfl)
             | (subst zk14_7; rfl)
             | (rw [if_neg zk14_0, if_neg zk14_1, if_neg zk14_2, if_neg zk14_3, if_neg zk14_4, if_neg zk14_5, if_neg zk14_6, if_neg zk14_7]))
    refine zr_tswK hE eX11_bowl_14 (1) (56) 70 (1) (by decide) (by decide) (by decide) (by decide) (by decide) (fun zk14_1 => ?_) (fun zk14_1 => ?_)
    · refine zr_aload_n hE eX11_bowl_70 rfl ?_
      refine zr_getR hE eX11_bowl_71 fX11_42 zs0 rfl ?_
      refine zr_getR hE eX11_bowl_74 fX11_90 (zH10).s0 rfl ?_
      refine zr_iload_n hE eX11_bowl_77 rfl ?_
      refine zr_iald hE eX11_bowl_78 (zH10).s2 hb.1 ?_
      refine hR.2.1 _ _ _ _ _ _ eX11_bowl_79 rfl rfl ?_
      first
        | (have q : ¬ (0 ≤ b ∧ b < w 10 7) := by simpa using zc8
           exact zq hQ (by rw [bwR, if_pos q]))
        | (have q : ¬ ¬ (0 ≤ b ∧ b < w 10 7) := by simpa using zc8
           refine zq hQ ?_
           rw [bwR, if_neg q]
           first
             | (subst zk14_0; rfl)
             | (subst zk14_1; rfl)
             | (subst zk14_2; rfl)
             | (subst zk14_3; rfl)
             | (subst zk14_4; rfl)
             | (subst zk14_5; rfl)
             | (subst zk14_6; rfl)
             | (subst zk14_7; rfl)
             | (rw [if_neg zk14_0, if_neg zk14_1, if_neg zk14_2, if_neg zk14_3, if_neg zk14_4, if_neg zk14_5, if_neg zk14_6, if_neg zk14_7]))
    refine zr_tswK hE eX11_bowl_14 (2) (66) 80 (2) (by decide) (by decide) (by decide) (by decide) (by decide) (fun zk14_2 => ?_) (fun zk14_2 => ?_)
    · refine zr_aload_n hE eX11_bowl_80 rfl ?_
      refine zr_getR hE eX11_bowl_81 fX11_42 zs0 rfl ?_
      refine zr_getR hE eX11_bowl_84 fX11_93 (zH10).s0 rfl ?_
      refine zr_iload_n hE eX11_bowl_87 rfl ?_
      refine zr_iald hE eX11_bowl_88 (zH10).s3 hb.1 ?_
      refine hR.2.1 _ _ _ _ _ _ eX11_bowl_89 rfl rfl ?_
      first
        | (have q : ¬ (0 ≤ b ∧ b < w 10 7) := by simpa using zc8
           exact zq hQ (by rw [bwR, if_pos q]))
        | (have q : ¬ ¬ (0 ≤ b ∧ b < w 10 7) := by simpa using zc8
           refine zq hQ ?_
           rw [bwR, if_neg q]
           first
             | (subst zk14_0; rfl)
             | (subst zk14_1; rfl)
             | (subst zk14_2; rfl)
             | (subst zk14_3; rfl)
             | (subst zk14_4; rfl)
             | (subst zk14_5; rfl)
             | (subst zk14_6; rfl)
             | (subst zk14_7; rfl)
             | (rw [if_neg zk14_0, if_neg zk14_1, if_neg zk14_2, if_neg zk14_3, if_neg zk14_4, if_neg zk14_5, if_neg zk14_6, if_neg zk14_7]))
    refine zr_tswK hE eX11_bowl_14 (3) (76) 90 (3) (by decide) (by decide) (by decide) (by decide) (by decide) (fun zk14_3 => ?_) (fun zk14_3 => ?_)
    · refine zr_aload_n hE eX11_bowl_90 rfl ?_
      refine zr_getR hE eX11_bowl_91 fX11_42 zs0 rfl ?_
      refine zr_getR hE eX11_bowl_94 fX11_96 (zH10).s0 rfl ?_
      refine zr_iload_n hE eX11_bowl_97 rfl ?_
      refine zr_iald hE eX11_bowl_98 (zH10).s4 hb.1 ?_
      refine hR.2.1 _ _ _ _ _ _ eX11_bowl_99 rfl rfl ?_
      first
        | (have q : ¬ (0 ≤ b ∧ b < w 10 7) := by simpa using zc8
           exact zq hQ (by rw [bwR, if_pos q]))
        | (have q : ¬ ¬ (0 ≤ b ∧ b < w 10 7) := by simpa using zc8
           refine zq hQ ?_
           rw [bwR, if_neg q]
           first
             | (subst zk14_0; rfl)
             | (subst zk14_1; rfl)
             | (subst zk14_2; rfl)
             | (subst zk14_3; rfl)
             | (subst zk14_4; rfl)
             | (subst zk14_5; rfl)
             | (subst zk14_6; rfl)
             | (subst zk14_7; rfl)
             | (rw [if_neg zk14_0, if_neg zk14_1, if_neg zk14_2, if_neg zk14_3, if_neg zk14_4, if_neg zk14_5, if_neg zk14_6, if_neg zk14_7]))
    refine zr_tswK hE eX11_bowl_14 (4) (86) 100 (4) (by decide) (by decide) (by decide) (by decide) (by decide) (fun zk14_4 => ?_) (fun zk14_4 => ?_)
    · refine zr_aload_n hE eX11_bowl_100 rfl ?_
      refine zr_getR hE eX11_bowl_101 fX11_42 zs0 rfl ?_
      refine zr_getR hE eX11_bowl_104 fX11_99 (zH10).s0 rfl ?_
      refine zr_iload_n hE eX11_bowl_107 rfl ?_
      refine zr_iald hE eX11_bowl_108 (zH10).s5 hb.1 ?_
      refine hR.2.1 _ _ _ _ _ _ eX11_bowl_109 rfl rfl ?_
      first
        | (have q : ¬ (0 ≤ b ∧ b < w 10 7) := by simpa using zc8
           exact zq hQ (by rw [bwR, if_pos q]))
        | (have q : ¬ ¬ (0 ≤ b ∧ b < w 10 7) := by simpa using zc8
           refine zq hQ ?_
           rw [bwR, if_neg q]
           first
             | (subst zk14_0; rfl)
             | (subst zk14_1; rfl)
             | (subst zk14_2; rfl)
             | (subst zk14_3; rfl)
             | (subst zk14_4; rfl)
             | (subst zk14_5; rfl)
             | (subst zk14_6; rfl)
             | (subst zk14_7; rfl)
             | (rw [if_neg zk14_0, if_neg zk14_1, if_neg zk14_2, if_neg zk14_3, if_neg zk14_4, if_neg zk14_5, if_neg zk14_6, if_neg zk14_7]))
    refine zr_tswK hE eX11_bowl_14 (5) (96) 110 (5) (by decide) (by decide) (by decide) (by decide) (by decide) (fun zk14_5 => ?_) (fun zk14_5 => ?_)
    · refine zr_aload_n hE eX11_bowl_110 rfl ?_
      refine zr_getR hE eX11_bowl_111 fX11_42 zs0 rfl ?_
      refine zr_iload_n hE eX11_bowl_114 rfl ?_
      refine zr_aload_n hE eX11_bowl_115 rfl ?_
      refine zr_getR hE eX11_bowl_116 fX11_42 zs0 rfl ?_
      refine zr_getR hE eX11_bowl_119 fX11_96 (zH10).s0 rfl ?_
      refine zr_iload_n hE eX11_bowl_122 rfl ?_
      refine zr_iald hE eX11_bowl_123 (zH10).s4 hb.1 ?_
      refine zr_callV2 hE eX11_bowl_124 lX11_102 (zH10).s0 rfl rfl (by decide) (Nat.le_of_ble_eq_true rfl) (c_X5_outsideAt zH10 hb.1 hb.2.1 ?_)
      refine hR.2.1 _ _ _ _ _ _ eX11_bowl_127 rfl rfl ?_
      first
        | (have q : ¬ (0 ≤ b ∧ b < w 10 7) := by simpa using zc8
           exact zq hQ (by rw [bwR, if_pos q]))
        | (have q : ¬ ¬ (0 ≤ b ∧ b < w 10 7) := by simpa using zc8
           refine zq hQ ?_
           rw [bwR, if_neg q]
           first
             | (subst zk14_0; rfl)
             | (subst zk14_1; rfl)
             | (subst zk14_2; rfl)
             | (subst zk14_3; rfl)
             | (subst zk14_4; rfl)
             | (subst zk14_5; rfl)
             | (subst zk14_6; rfl)
             | (subst zk14_7; rfl)
             | (rw [if_neg zk14_0, if_neg zk14_1, if_neg zk14_2, if_neg zk14_3, if_neg zk14_4, if_neg zk14_5, if_neg zk14_6, if_neg zk14_7]))
    refine zr_tswK hE eX11_bowl_14 (6) (114) 128 (6) (by decide) (by decide) (by decide) (by decide) (by decide) (fun zk14_6 => ?_) (fun zk14_6 => ?_)
    · refine zr_aload_n hE eX11_bowl_128 rfl ?_
      refine zr_getR hE eX11_bowl_129 fX11_42 zs0 rfl ?_
      refine zr_iload_n hE eX11_bowl_132 rfl ?_
      refine zr_aload_n hE eX11_bowl_133 rfl ?_
      refine zr_getR hE eX11_bowl_134 fX11_42 zs0 rfl ?_
      refine zr_getR hE eX11_bowl_137 fX11_96 (zH10).s0 rfl ?_
      refine zr_iload_n hE eX11_bowl_140 rfl ?_
      refine zr_iald hE eX11_bowl_141 (zH10).s4 hb.1 ?_
      refine zr_aload_n hE eX11_bowl_142 rfl ?_
      refine zr_getR hE eX11_bowl_143 fX11_42 zs0 rfl ?_
      refine zr_getI hE eX11_bowl_146 fX11_106 (zH10).s0 rfl ?_
      refine zr_callV3 hE eX11_bowl_149 lX11_110 (zH10).s0 rfl rfl (by decide) (Nat.le_of_ble_eq_true rfl) (c_X5_insideAt zH10 hb.1 hb.2.1 ?_)
      refine hR.2.1 _ _ _ _ _ _ eX11_bowl_152 rfl rfl ?_
      first
        | (have q : ¬ (0 ≤ b ∧ b < w 10 7) := by simpa using zc8
           exact zq hQ (by rw [bwR, if_pos q]))
        | (have q : ¬ ¬ (0 ≤ b ∧ b < w 10 7) := by simpa using zc8
           refine zq hQ ?_
           rw [bwR, if_neg q]
           first
             | (subst zk14_0; rfl)
             | (subst zk14_1; rfl)
             | (subst zk14_2; rfl)
             | (subst zk14_3; rfl)
             | (subst zk14_4; rfl)
             | (subst zk14_5; rfl)
             | (subst zk14_6; rfl)
             | (subst zk14_7; rfl)
             | (rw [if_neg zk14_0, if_neg zk14_1, if_neg zk14_2, if_neg zk14_3, if_neg zk14_4, if_neg zk14_5, if_neg zk14_6, if_neg zk14_7]))
    refine zr_tswK hE eX11_bowl_14 (7) (139) 153 (7) (by decide) (by decide) (by decide) (by decide) (by decide) (fun zk14_7 => ?_) (fun zk14_7 => ?_)
    · refine zr_aload_n hE eX11_bowl_153 rfl ?_
      refine zr_getR hE eX11_bowl_154 fX11_42 zs0 rfl ?_
      refine zr_iload_n hE eX11_bowl_157 rfl ?_
      refine zr_callV1 hE eX11_bowl_158 lX11_114 (zH10).s0 rfl rfl (by decide) (Nat.le_of_ble_eq_true rfl) (c_X5_riseOf zH10 hb.1 hb.2.1 ?_)
      refine hR.2.1 _ _ _ _ _ _ eX11_bowl_161 rfl rfl ?_
      first
        | (have q : ¬ (0 ≤ b ∧ b < w 10 7) := by simpa using zc8
           exact zq hQ (by rw [bwR, if_pos q]))
        | (have q : ¬ ¬ (0 ≤ b ∧ b < w 10 7) := by simpa using zc8
           refine zq hQ ?_
           rw [bwR, if_neg q]
           first
             | (subst zk14_0; rfl)
             | (subst zk14_1; rfl)
             | (subst zk14_2; rfl)
             | (subst zk14_3; rfl)
             | (subst zk14_4; rfl)
             | (subst zk14_5; rfl)
             | (subst zk14_6; rfl)
             | (subst zk14_7; rfl)
             | (rw [if_neg zk14_0, if_neg zk14_1, if_neg zk14_2, if_neg zk14_3, if_neg zk14_4, if_neg zk14_5, if_neg zk14_6, if_neg zk14_7]))
    refine zr_tableOut hE eX11_bowl_14 (tgt := 162) ?_ (by decide) ?_
    · have zm0 := zne zk14_0 (v := 0) (by decide); have zm1 := zne zk14_1 (v := 1) (by decide); have zm2 := zne zk14_2 (v := 2) (by decide); have zm3 := zne zk14_3 (v := 3) (by decide); have zm4 := zne zk14_4 (v := 4) (by decide); have zm5 := zne zk14_5 (v := 5) (by decide); have zm6 := zne zk14_6 (v := 6) (by decide); have zm7 := zne zk14_7 (v := 7) (by decide); omega
    refine zr_iconst hE eX11_bowl_162 (v := -1) (by decide) ?_
    refine hR.2.1 _ _ _ _ _ _ eX11_bowl_163 rfl rfl ?_
    first
      | (have q : ¬ (0 ≤ b ∧ b < w 10 7) := by simpa using zc8
         exact zq hQ (by rw [bwR, if_pos q]))
      | (have q : ¬ ¬ (0 ≤ b ∧ b < w 10 7) := by simpa using zc8
         refine zq hQ ?_
         rw [bwR, if_neg q]
         first
           | (subst zk14_0; rfl)
           | (subst zk14_1; rfl)
           | (subst zk14_2; rfl)
           | (subst zk14_3; rfl)
           | (subst zk14_4; rfl)
           | (subst zk14_5; rfl)
           | (subst zk14_6; rfl)
           | (subst zk14_7; rfl)
           | (rw [if_neg zk14_0, if_neg zk14_1, if_neg zk14_2, if_neg zk14_3, if_neg zk14_4, if_neg zk14_5, if_neg zk14_6, if_neg zk14_7]))
  · refine zr_iconst hE eX11_bowl_11 (v := -1) (by decide) ?_
    refine hR.2.1 _ _ _ _ _ _ eX11_bowl_12 rfl rfl ?_
    first
      | (have q : ¬ (0 ≤ b ∧ b < w 10 7) := by simpa using zc8
         exact zq hQ (by rw [bwR, if_pos q]))
      | (have q : ¬ ¬ (0 ≤ b ∧ b < w 10 7) := by simpa using zc8
         refine zq hQ ?_
         rw [bwR, if_neg q]
         first
           | (subst zk14_0; rfl)
           | (subst zk14_1; rfl)
           | (subst zk14_2; rfl)
           | (subst zk14_3; rfl)
           | (subst zk14_4; rfl)
           | (subst zk14_5; rfl)
           | (subst zk14_6; rfl)
           | (subst zk14_7; rfl)
           | (rw [if_neg zk14_0, if_neg zk14_1, if_neg zk14_2, if_neg zk14_3, if_neg zk14_4, if_neg zk14_5, if_neg zk14_6, if_neg zk14_7]))

def cmO (w : ww) (d s e t : Int32) : Sum Int32 ww := if fIs d 0 7 = true ∧ fIs s 1 99 = true ∧ fIs e 1 99 = true ∧ fIs t 0 1 = true then (if rfS w d 1 = 0 then (match hAdd w 10 (w (fSh d) 2) (w (fSh d) 3) t s e with | some u => .inr u | none => .inl (-2)) else .inl (rfS w d 1)) else .inl (-1)
set_option maxHeartbeats 4000000 in
theorem c_X11_comes {c : Nat} {d s e t : Int32} {w : ww} {Q : Option Value → ww → Prop} (hN : Now w c) (hQ1 : ∀ r, cmO w d s e t = .inl r → Q (some (.int r)) w) (hQ2 : ∀ u, cmO w d s e t = .inr u → Q (some (.int (u 10 7 - 1))) u)  : Ct mX11_comes 5 [.ref 0, .int d, .int s, .int e, .int t] w Q := by
  refine Ct.of (by decide) (Nat.le_of_ble_eq_true rfl) (fun _ => Nat.le_of_ble_eq_true rfl) (fun G hR => ?_)
  have hE := hR.1
  refine zr_iload_n hE eX11_comes_0 rfl ?_
  refine zr_callS1 hE eX11_comes_1 lX11_117 (by decide) (Nat.le_of_ble_eq_true rfl) (c_X11_isShelf ?_)
  refine zr_beq hE eX11_comes_4 (tgt := 31) (by decide) (fun zc4 => ?_) (fun zc4 => ?_)
  · refine zr_iconst hE eX11_comes_31 (v := -1) (by decide) ?_
    refine hR.2.1 _ _ _ _ _ _ eX11_comes_32 rfl rfl ?_
    refine hQ1 _ ?_
    rw [cmO, if_neg]
    rintro ⟨q1, q2, q3, q4⟩
    first
      | exact absurd q1 (by rw [zc4]; decide)
      | exact absurd q2 (by rw [zc11]; decide)
      | exact absurd q3 (by rw [zc18]; decide)
      | exact absurd (show (decide (0 ≤ t) && decide (t ≤ 1)) = true from q4) (by rw [zc28]; decide)
  · refine zr_iload_n hE eX11_comes_7 rfl ?_
    refine zr_callS1 hE eX11_comes_8 lX11_120 (by decide) (Nat.le_of_ble_eq_true rfl) (c_X11_areHairs ?_)
    refine zr_beq hE eX11_comes_11 (tgt := 31) (by decide) (fun zc11 => ?_) (fun zc11 => ?_)
    · refine zr_iconst hE eX11_comes_31 (v := -1) (by decide) ?_
      refine hR.2.1 _ _ _ _ _ _ eX11_comes_32 rfl rfl ?_
      refine hQ1 _ ?_
      rw [cmO, if_neg]
      rintro ⟨q1, q2, q3, q4⟩
      first
        | exact absurd q1 (by rw [zc4]; decide)
        | exact absurd q2 (by rw [zc11]; decide)
        | exact absurd q3 (by rw [zc18]; decide)
        | exact absurd (show (decide (0 ≤ t) && decide (t ≤ 1)) = true from q4) (by rw [zc28]; decide)
    · refine zr_iload_n hE eX11_comes_14 rfl ?_
      refine zr_callS1 hE eX11_comes_15 lX11_120 (by decide) (Nat.le_of_ble_eq_true rfl) (c_X11_areHairs ?_)
      refine zr_beq hE eX11_comes_18 (tgt := 31) (by decide) (fun zc18 => ?_) (fun zc18 => ?_)
      · refine zr_iconst hE eX11_comes_31 (v := -1) (by decide) ?_
        refine hR.2.1 _ _ _ _ _ _ eX11_comes_32 rfl rfl ?_
        refine hQ1 _ ?_
        rw [cmO, if_neg]
        rintro ⟨q1, q2, q3, q4⟩
        first
          | exact absurd q1 (by rw [zc4]; decide)
          | exact absurd q2 (by rw [zc11]; decide)
          | exact absurd q3 (by rw [zc18]; decide)
          | exact absurd (show (decide (0 ≤ t) && decide (t ≤ 1)) = true from q4) (by rw [zc28]; decide)
      · refine zr_iload hE eX11_comes_21 rfl ?_
        refine zr_iconst hE eX11_comes_23 (v := 0) (by decide) ?_
        refine zr_iconst hE eX11_comes_24 (v := 1) (by decide) ?_
        refine zr_callS3 hE eX11_comes_25 lX11_123 (by decide) (Nat.le_of_ble_eq_true rfl) (c_X11_isWithin ?_)
        refine zr_bne hE eX11_comes_28 (tgt := 33) (by decide) (fun zc28 => ?_) (fun zc28 => ?_)
        · refine zr_aload_n hE eX11_comes_33 rfl ?_
          refine zr_iload_n hE eX11_comes_34 rfl ?_
          refine zr_callV1 hE eX11_comes_35 lX11_127 zs0 rfl rfl (by decide) (Nat.le_of_ble_eq_true rfl) (c_X11_bowlRefusal ?_)
          refine zr_istore hE eX11_comes_38 (by decide) rfl ?_
          refine zr_iload hE eX11_comes_40 rfl ?_
          refine zr_if_eq hE eX11_comes_42 (tgt := 48) (by decide) (fun zc42 => ?_) (fun zc42 => ?_)
          · refine zr_aload_n hE eX11_comes_48 rfl ?_
            refine zr_getR hE eX11_comes_49 fX11_42 zs0 rfl ?_
            refine zr_aload_n hE eX11_comes_52 rfl ?_
            refine zr_getR hE eX11_comes_53 fX11_61 zs0 rfl ?_
            refine zr_iload_n hE eX11_comes_56 rfl ?_
            refine zr_shelves hE eX11_comes_57 (fIs_vp zc4) ?_
            refine zr_getI hE eX11_comes_58 fX11_130 ((fSh_sf zc4)).s0 rfl ?_
            refine zr_aload_n hE eX11_comes_61 rfl ?_
            refine zr_getR hE eX11_comes_62 fX11_61 zs0 rfl ?_
            refine zr_iload_n hE eX11_comes_65 rfl ?_
            refine zr_shelves hE eX11_comes_66 (fIs_vp zc4) ?_
            refine zr_getI hE eX11_comes_67 fX11_132 ((fSh_sf zc4)).s0 rfl ?_
            refine zr_iload hE eX11_comes_70 rfl ?_
            refine zr_iload_n hE eX11_comes_72 rfl ?_
            refine zr_iload_n hE eX11_comes_73 rfl ?_
            refine zr_callV5 hE eX11_comes_74 lX11_134 (zH10).s0 rfl rfl (by decide) (Nat.le_of_ble_eq_true rfl) (c_add2 zH10 (fun q => by rw [hN.2.1]; exact vpn (by have := hN.1; omega) (by decide)) ?_)
            refine zr_bne hE eX11_comes_77 (tgt := 83) (by decide) (fun zc77 => ?_) (fun zc77 => ?_)
            · refine zr_aload_n hE eX11_comes_83 rfl ?_
              refine zr_getR hE eX11_comes_84 fX11_42 zs0 rfl ?_
              refine zr_getI hE eX11_comes_87 fX11_138 (zH10).s0 rfl ?_
              refine zr_iconst hE eX11_comes_90 (v := 1) (by decide) ?_
              refine zr_isub hE eX11_comes_91 ?_
              refine hR.2.1 _ _ _ _ _ _ eX11_comes_92 rfl rfl ?_
              obtain ⟨u, hu⟩ : ∃ u, hAdd w 10 (w (fSh d) 2) (w (fSh d) 3) t s e = some u := Option.isSome_iff_exists.mp zc77
              have e1 := hQ2 u (by rw [cmO, if_pos ⟨zc4, zc11, zc18, by simpa [fIs] using zc28⟩, if_pos zc42, hu])
              simp only [fSh] at hu
              rw [hu]
              exact e1
            · refine zr_bipush hE eX11_comes_80 (v := -2) (by decide) ?_
              refine hR.2.1 _ _ _ _ _ _ eX11_comes_82 rfl rfl ?_
              have hu : hAdd w 10 (w (fSh d) 2) (w (fSh d) 3) t s e = none := by simpa [fSh] using zc77
              have e1 := hQ1 (-2) (by rw [cmO, if_pos ⟨zc4, zc11, zc18, by simpa [fIs] using zc28⟩, if_pos zc42, hu])
              simp only [fSh] at hu
              rw [hu]
              exact e1
          · refine zr_iload hE eX11_comes_45 rfl ?_
            refine hR.2.1 _ _ _ _ _ _ eX11_comes_47 rfl rfl ?_
            refine hQ1 _ ?_
            rw [cmO, if_pos ⟨zc4, zc11, zc18, by simpa [fIs] using zc28⟩, if_neg zc42]
        · refine zr_iconst hE eX11_comes_31 (v := -1) (by decide) ?_
          refine hR.2.1 _ _ _ _ _ _ eX11_comes_32 rfl rfl ?_
          refine hQ1 _ ?_
          rw [cmO, if_neg]
          rintro ⟨q1, q2, q3, q4⟩
          first
            | exact absurd q1 (by rw [zc4]; decide)
            | exact absurd q2 (by rw [zc11]; decide)
            | exact absurd q3 (by rw [zc18]; decide)
            | exact absurd (show (decide (0 ≤ t) && decide (t ≤ 1)) = true from q4) (by rw [zc28]; decide)

theorem flp_vp {w : ww} {c : Nat} (hN : Now w c) {b : Int32} (h : (hFlp w 10 b).isSome = true) : vp_in b 10 := by
  unfold hFlp at h
  split at h
  · rename_i q; exact (has_of hN q).1
  · cases h
set_option maxHeartbeats 4000000 in
theorem c_X11_warm {v : Int32} {w : ww} {Q : Option Value → ww → Prop} (hQ1 : fIs v 0 9 = false → Q (some (.int (-1))) w) (hQ2 : fIs v 0 9 = true → Q (some (.int (w 10 8))) (wu w 10 8 v))  : Ct mX11_warm 3 [.ref 0, .int v] w Q := by
  refine Ct.of (by decide) (Nat.le_of_ble_eq_true rfl) (fun _ => Nat.le_of_ble_eq_true rfl) (fun G hR => ?_)
  have hE := hR.1
  refine zr_iload_n hE eX11_warm_0 rfl ?_
  refine zr_callS1 hE eX11_warm_1 lX11_141 (by decide) (Nat.le_of_ble_eq_true rfl) (c_X11_isWarmth ?_)
  refine zr_bne hE eX11_warm_4 (tgt := 9) (by decide) (fun zc4 => ?_) (fun zc4 => ?_)
  · refine zr_aload_n hE eX11_warm_9 rfl ?_
    refine zr_getR hE eX11_warm_10 fX11_42 zs0 rfl ?_
    refine zr_getI hE eX11_warm_13 fX11_106 (zH10).s0 rfl ?_
    refine zr_istore_n hE eX11_warm_16 (by decide) rfl ?_
    refine zr_aload_n hE eX11_warm_17 rfl ?_
    refine zr_getR hE eX11_warm_18 fX11_42 zs0 rfl ?_
    refine zr_iload_n hE eX11_warm_21 rfl ?_
    refine zr_put hE eX11_warm_22 gX11_106 (zH10).s0 rfl rfl rfl ?_
    refine zr_iload_n hE eX11_warm_25 rfl ?_
    refine hR.2.1 _ _ _ _ _ _ eX11_warm_26 rfl rfl ?_
    first | exact hQ1 (by assumption) | exact hQ2 (by assumption)
  · refine zr_iconst hE eX11_warm_7 (v := -1) (by decide) ?_
    refine hR.2.1 _ _ _ _ _ _ eX11_warm_8 rfl rfl ?_
    first | exact hQ1 (by assumption) | exact hQ2 (by assumption)

set_option maxHeartbeats 4000000 in
theorem c_X11_turn {c : Nat} {b : Int32} {w : ww} {Q : Option Value → ww → Prop} (hN : Now w c) (hQ1 : hFlp w 10 b = none → Q (some (.int (-1))) w) (hQ2 : ∀ u, hFlp w 10 b = some u → Q (some (.int (u 13 b.toNatClampNeg))) u)  : Ct mX11_turn 3 [.ref 0, .int b] w Q := by
  refine Ct.of (by decide) (Nat.le_of_ble_eq_true rfl) (fun _ => Nat.le_of_ble_eq_true rfl) (fun G hR => ?_)
  have hE := hR.1
  refine zr_aload_n hE eX11_turn_0 rfl ?_
  refine zr_getR hE eX11_turn_1 fX11_42 zs0 rfl ?_
  refine zr_iload_n hE eX11_turn_4 rfl ?_
  refine zr_callV1 hE eX11_turn_5 lX11_144 (zH10).s0 rfl rfl (by decide) (Nat.le_of_ble_eq_true rfl) (c_flp2 zH10 (fun q => (has_of hN q).1) ?_)
  refine zr_bne hE eX11_turn_8 (tgt := 13) (by decide) (fun zc8 => ?_) (fun zc8 => ?_)
  · refine zr_aload_n hE eX11_turn_13 rfl ?_
    refine zr_getR hE eX11_turn_14 fX11_42 zs0 rfl ?_
    refine zr_getR hE eX11_turn_17 fX11_93 (zH10).s0 rfl ?_
    refine zr_iload_n hE eX11_turn_20 rfl ?_
    refine zr_iald hE eX11_turn_21 (zH10).s3 (flp_vp hN zc8) ?_
    refine hR.2.1 _ _ _ _ _ _ eX11_turn_22 rfl rfl ?_
    obtain ⟨u, hu⟩ := Option.isSome_iff_exists.mp zc8
    have e1 := hQ2 u hu
    rw [hu]
    exact e1
  · refine zr_iconst hE eX11_turn_11 (v := -1) (by decide) ?_
    refine hR.2.1 _ _ _ _ _ _ eX11_turn_12 rfl rfl ?_
    have hu : hFlp w 10 b = none := by simpa using zc8
    rw [hu]
    exact hQ1 hu

set_option maxHeartbeats 4000000 in
theorem c_X11_lies {c : Nat} {a b : Int32} {w : ww} {Q : Option Value → ww → Prop} (hN : Now w c) (hQ : Q (some (.int (if (0 ≤ a ∧ a < w 10 7) ∧ (0 ≤ b ∧ b < w 10 7) ∧ ¬ a = b then bi (fLi (hB w 10) a.toNatClampNeg b.toNatClampNeg (w 10 8)) else -1))) w) : Ct mX11_lies 6 [.ref 0, .int a, .int b] w Q := by
  refine Ct.of (by decide) (Nat.le_of_ble_eq_true rfl) (fun _ => Nat.le_of_ble_eq_true rfl) (fun G hR => ?_)
  have hE := hR.1
  refine zr_aload_n hE eX11_lies_0 rfl ?_
  refine zr_iload_n hE eX11_lies_1 rfl ?_
  refine zr_iload_n hE eX11_lies_2 rfl ?_
  refine zr_callV2 hE eX11_lies_3 lX11_147 zs0 rfl rfl (by decide) (Nat.le_of_ble_eq_true rfl) (c_X11_arePair ?_)
  refine zr_bne hE eX11_lies_6 (tgt := 11) (by decide) (fun zc6 => ?_) (fun zc6 => ?_)
  · have hp : (0 ≤ a ∧ a < w 10 7) ∧ (0 ≤ b ∧ b < w 10 7) ∧ ¬ a = b := by simpa [and_assoc] using zc6
    have hq : (vp_in a 10 ∧ vp_in (w 11 a.toNatClampNeg) 8) ∧ (vp_in b 10 ∧ vp_in (w 11 b.toNatClampNeg) 8) := ⟨⟨(has_of hN hp.1).1, (has_of hN hp.1).2.1⟩, ⟨(has_of hN hp.2.1).1, (has_of hN hp.2.1).2.1⟩⟩
    refine zr_aload_n hE eX11_lies_11 rfl ?_
    refine zr_getR hE eX11_lies_12 fX11_42 zs0 rfl ?_
    refine zr_iload_n hE eX11_lies_15 rfl ?_
    refine zr_iload_n hE eX11_lies_16 rfl ?_
    refine zr_aload_n hE eX11_lies_17 rfl ?_
    refine zr_getR hE eX11_lies_18 fX11_42 zs0 rfl ?_
    refine zr_getI hE eX11_lies_21 fX11_106 (zH10).s0 rfl ?_
    refine zr_callV3 hE eX11_lies_24 lX11_151 (zH10).s0 rfl rfl (by decide) (Nat.le_of_ble_eq_true rfl) (c_X5_isIn zH10 hq.1.1 hq.2.1 hq.1.2 hq.2.2 ?_)
    refine zr_beq hE eX11_lies_27 (tgt := 34) (by decide) (fun zc27 => ?_) (fun zc27 => ?_)
    · refine zr_iconst hE eX11_lies_34 (v := 0) (by decide) ?_
      refine hR.2.1 _ _ _ _ _ _ eX11_lies_35 rfl rfl ?_
      first
        | (have hp : ¬ ((0 ≤ a ∧ a < w 10 7) ∧ (0 ≤ b ∧ b < w 10 7) ∧ ¬ a = b) := by
             intro hp
             simp_all
           rw [if_neg hp] at hQ
           exact hQ)
        | (rw [if_pos hp] at hQ
           first
             | exact zq hQ (by simp_all [bi])
             | exact hQ)
    · refine zr_iconst hE eX11_lies_30 (v := 1) (by decide) ?_
      refine zr_goto hE eX11_lies_31 (tgt := 35) (by decide) ?_
      refine hR.2.1 _ _ _ _ _ _ eX11_lies_35 rfl rfl ?_
      first
        | (have hp : ¬ ((0 ≤ a ∧ a < w 10 7) ∧ (0 ≤ b ∧ b < w 10 7) ∧ ¬ a = b) := by
             intro hp
             simp_all
           rw [if_neg hp] at hQ
           exact hQ)
        | (rw [if_pos hp] at hQ
           first
             | exact zq hQ (by simp_all [bi])
             | exact hQ)
  · refine zr_iconst hE eX11_lies_9 (v := -1) (by decide) ?_
    refine hR.2.1 _ _ _ _ _ _ eX11_lies_10 rfl rfl ?_
    first
      | (have hp : ¬ ((0 ≤ a ∧ a < w 10 7) ∧ (0 ≤ b ∧ b < w 10 7) ∧ ¬ a = b) := by
           intro hp
           simp_all
         rw [if_neg hp] at hQ
         exact hQ)
      | (rw [if_pos hp] at hQ
         first
           | exact zq hQ (by simp_all [bi])
           | exact hQ)

theorem Nowk {w : ww} {c : Nat} (hN : Now w c) : ∀ b, b < c → vp_in (w (10 + 1) b) 8 := hN.2.2
set_option maxHeartbeats 4000000 in
theorem c_X11_nest {c : Nat} {b : Int32} {w : ww} {Q : Option Value → ww → Prop} (hN : Now w c) (hQ1 : ¬ (∃ t, t < 2 ^ c ∧ b = nI t) → Q (some (.int (-1))) w) (hQ2 : (∃ t, t < 2 ^ c ∧ b = nI t) → ∀ u, SC w u → Q (some (.int (bi (decide (0 < fHg (hB w 10) (w 10 8) c b))))) u)  : Ct mX11_nest 7 [.ref 0, .int b] w Q := by
  refine Ct.of (by decide) (Nat.le_of_ble_eq_true rfl) (fun _ => Nat.le_of_ble_eq_true rfl) (fun G hR => ?_)
  have hE := hR.1
  refine zr_aload_n hE eX11_nest_0 rfl ?_
  refine zr_iload_n hE eX11_nest_1 rfl ?_
  refine zr_callV1 hE eX11_nest_2 lX11_154 zs0 rfl rfl (by decide) (Nat.le_of_ble_eq_true rfl) (c_X11_areBowls ?_)
  refine zr_bne hE eX11_nest_5 (tgt := 10) (by decide) (fun zc5 => ?_) (fun zc5 => ?_)
  · refine zr_aload_n hE eX11_nest_10 rfl ?_
    refine zr_getR hE eX11_nest_11 fX11_42 zs0 rfl ?_
    refine zr_iload_n hE eX11_nest_14 rfl ?_
    refine zr_callV1 hE eX11_nest_15 lX11_157 (zH10).s0 rfl rfl (by decide) (Nat.le_of_ble_eq_true rfl) (c_X5_heightOf zH10 (c := c) (by have := hN.1; omega) hN.2.1 (Nowk hN) (fun u hof => ?_))
    refine zr_kif_le hE eX11_nest_18 (tgt := 25) (by decide) (fun zc18 zd18 => ?_) (fun zc18 zd18 => ?_)
    · refine zr_iconst hE eX11_nest_25 (v := 0) (by decide) ?_
      refine hR.2.1 _ _ _ _ _ _ eX11_nest_26 rfl rfl ?_
      first
        | (refine hQ1 (fun q => ?_)
           rw [hN.2.1, decide_eq_false_iff_not, areB hN.1] at zc5
           exact zc5 q)
        | (rw [hN.2.1, decide_eq_true_eq, areB hN.1] at zc5
           have hS : SC w u := fun p hp => hof p (fun q => hp (Or.inl q))
           refine zq (hQ2 zc5 u hS) ?_
           simp_all [bi, -Int32.not_lt])
    · refine zr_iconst hE eX11_nest_21 (v := 1) (by decide) ?_
      refine zr_goto hE eX11_nest_22 (tgt := 26) (by decide) ?_
      refine hR.2.1 _ _ _ _ _ _ eX11_nest_26 rfl rfl ?_
      first
        | (refine hQ1 (fun q => ?_)
           rw [hN.2.1, decide_eq_false_iff_not, areB hN.1] at zc5
           exact zc5 q)
        | (rw [hN.2.1, decide_eq_true_eq, areB hN.1] at zc5
           have hS : SC w u := fun p hp => hof p (fun q => hp (Or.inl q))
           refine zq (hQ2 zc5 u hS) ?_
           simp_all [bi, -Int32.not_lt])
  · refine zr_iconst hE eX11_nest_8 (v := -1) (by decide) ?_
    refine hR.2.1 _ _ _ _ _ _ eX11_nest_9 rfl rfl ?_
    first
      | (refine hQ1 (fun q => ?_)
         rw [hN.2.1, decide_eq_false_iff_not, areB hN.1] at zc5
         exact zc5 q)
      | (rw [hN.2.1, decide_eq_true_eq, areB hN.1] at zc5
         have hS : SC w u := fun p hp => hof p (fun q => hp (Or.inl q))
         refine zq (hQ2 zc5 u hS) ?_
         simp_all [bi, -Int32.not_lt])

set_option maxHeartbeats 4000000 in
theorem c_X11_height {c : Nat} {b : Int32} {w : ww} {Q : Option Value → ww → Prop} (hN : Now w c) (hQ1 : ¬ (∃ t, t < 2 ^ c ∧ b = nI t) → Q (some (.int (-1))) w) (hQ2 : (∃ t, t < 2 ^ c ∧ b = nI t) → ∀ u, SC w u → Q (some (.int (if 0 < fHg (hB w 10) (w 10 8) c b then fHg (hB w 10) (w 10 8) c b else -3))) u)  : Ct mX11_height 7 [.ref 0, .int b] w Q := by
  refine Ct.of (by decide) (Nat.le_of_ble_eq_true rfl) (fun _ => Nat.le_of_ble_eq_true rfl) (fun G hR => ?_)
  have hE := hR.1
  refine zr_aload_n hE eX11_height_0 rfl ?_
  refine zr_iload_n hE eX11_height_1 rfl ?_
  refine zr_callV1 hE eX11_height_2 lX11_154 zs0 rfl rfl (by decide) (Nat.le_of_ble_eq_true rfl) (c_X11_areBowls ?_)
  refine zr_bne hE eX11_height_5 (tgt := 10) (by decide) (fun zc5 => ?_) (fun zc5 => ?_)
  · refine zr_aload_n hE eX11_height_10 rfl ?_
    refine zr_getR hE eX11_height_11 fX11_42 zs0 rfl ?_
    refine zr_iload_n hE eX11_height_14 rfl ?_
    refine zr_callV1 hE eX11_height_15 lX11_157 (zH10).s0 rfl rfl (by decide) (Nat.le_of_ble_eq_true rfl) (c_X5_heightOf zH10 (c := c) (by have := hN.1; omega) hN.2.1 (Nowk hN) (fun u hof => ?_))
    refine zr_istore_n hE eX11_height_18 (by decide) rfl ?_
    refine zr_iload_n hE eX11_height_19 rfl ?_
    refine zr_kif_le hE eX11_height_20 (tgt := 27) (by decide) (fun zc20 zd20 => ?_) (fun zc20 zd20 => ?_)
    · refine zr_bipush hE eX11_height_27 (v := -3) (by decide) ?_
      refine hR.2.1 _ _ _ _ _ _ eX11_height_29 rfl rfl ?_
      first
        | (refine hQ1 (fun q => ?_)
           rw [hN.2.1, decide_eq_false_iff_not, areB hN.1] at zc5
           exact zc5 q)
        | (rw [hN.2.1, decide_eq_true_eq, areB hN.1] at zc5
           have hS : SC w u := fun p hp => hof p (fun q => hp (Or.inl q))
           refine zq (hQ2 zc5 u hS) ?_
           simp_all [bi, -Int32.not_lt])
    · refine zr_iload_n hE eX11_height_23 rfl ?_
      refine zr_goto hE eX11_height_24 (tgt := 29) (by decide) ?_
      refine hR.2.1 _ _ _ _ _ _ eX11_height_29 rfl rfl ?_
      first
        | (refine hQ1 (fun q => ?_)
           rw [hN.2.1, decide_eq_false_iff_not, areB hN.1] at zc5
           exact zc5 q)
        | (rw [hN.2.1, decide_eq_true_eq, areB hN.1] at zc5
           have hS : SC w u := fun p hp => hof p (fun q => hp (Or.inl q))
           refine zq (hQ2 zc5 u hS) ?_
           simp_all [bi, -Int32.not_lt])
  · refine zr_iconst hE eX11_height_8 (v := -1) (by decide) ?_
    refine hR.2.1 _ _ _ _ _ _ eX11_height_9 rfl rfl ?_
    first
      | (refine hQ1 (fun q => ?_)
         rw [hN.2.1, decide_eq_false_iff_not, areB hN.1] at zc5
         exact zc5 q)
      | (rw [hN.2.1, decide_eq_true_eq, areB hN.1] at zc5
         have hS : SC w u := fun p hp => hof p (fun q => hp (Or.inl q))
         refine zq (hQ2 zc5 u hS) ?_
         simp_all [bi, -Int32.not_lt])

/-- the heights of all nests that were found -/
def hF (F : List zE3) (s : Nat) : Int32 := match F.find? (fun e => e.1 == s) with
  | some e => e.2.2
  | none => 0
theorem hF_ok {u : ww} {F : List zE3} {n : Nat} (hR : Rep u F) (hz : ∀ s, s < n → (∀ e ∈ F, e.1 ≠ s) → u 32 s = 0) {s : Nat} (hs : s < n) : u 32 s = hF F s := by
  unfold hF
  cases h : F.find? (fun e => e.1 == s) with
  | none => exact hz s hs (fun e he q => by have := List.find?_eq_none.mp h e he; simp [q] at this)
  | some e =>
    have h1 := List.find?_some h
    have h2 := List.mem_of_find?_eq_some h
    have h3 : e.1 = s := by simpa using h1
    rw [← h3]
    exact (hR.2.2 e h2).2
theorem bstF_cong {C C' L L' : Nat → Int32} {low rest m : Nat} (hlow : low < 512) (hrest : rest < 512) : ∀ (l : List Nat) (b : Int32), (∀ p ∈ l, p &&& rest = p) → (∀ p, p &&& rest = p → C (p ||| low) = C' (p ||| low)) → (∀ t, t ≤ rest → L t = L' t) → bstF C L low rest l b = bstF C' L' low rest l b
  | [], b, _, _, _ => rfl
  | p :: l, b, h1, h2, h3 => by
    have hp := h1 p (by simp)
    rw [bstF, bstF, h2 p hp, h3 _ (xor_sub hp)]
    exact bstF_cong hlow hrest (m := m) l _ (fun q hq => h1 q (by simp [hq])) h2 h3
theorem subL_sub {r : Nat} : ∀ (f p : Nat), p &&& r = p → ∀ q ∈ subL r f p, q &&& r = q
  | 0, p, hp, q, hq => by simp [subL] at hq
  | f + 1, p, hp, q, hq => by
    rw [subL] at hq
    rcases List.mem_cons.mp hq with rfl | hq
    · exact hp
    · by_cases h0 : p = 0
      · rw [if_pos h0] at hq; simp at hq
      · rw [if_neg h0] at hq
        exact subL_sub f _ (and_and_self2 _ _) q hq
theorem or_le_of_sub {p r low s : Nat} (hp : p &&& r = p) (hs : r ||| low = s) : p ||| low ≤ s ∧ (low ≠ 0 → 0 < p ||| low) := by
  refine ⟨?_, fun h => Nat.pos_of_ne_zero (fun q => h ?_)⟩
  · have e : (p ||| low) &&& s = p ||| low := by
      apply Nat.eq_of_testBit_eq
      intro i
      have := congrArg (fun z => Nat.testBit z i) hp
      simp only [Nat.testBit_and, Nat.testBit_or, ← hs] at this ⊢
      cases h1 : p.testBit i <;> cases h2 : r.testBit i <;> cases h3 : low.testBit i <;> simp_all
    rw [← e]; exact Nat.and_le_right
  · have : low = (p ||| low) &&& low := by
      apply Nat.eq_of_testBit_eq
      intro i
      simp only [Nat.testBit_and, Nat.testBit_or]
      cases p.testBit i <;> cases low.testBit i <;> rfl
    rw [this, q]; simp
theorem lowN_or : ∀ s, s < 512 → s ≠ 0 → (s ^^^ lowN s) ||| lowN s = s ∧ lowN s ≠ 0 := by decide +kernel
theorem lsT_cong {C C' : Nat → Int32} : ∀ (n : Nat), n < 512 → (∀ t, 0 < t → t ≤ n → C t = C' t) → ∀ s, s ≤ n → lsT C n s = lsT C' n s
  | 0, _, _, _, _ => rfl
  | n + 1, hn, h, s, hs => by
    have ih := lsT_cong n (by omega) (fun t h1 h2 => h t h1 (by omega))
    rw [lsT, lsT]
    by_cases q : s = n + 1
    · rw [if_pos q, if_pos q]
      obtain ⟨-, e2, e3⟩ := lowN_ok (n + 1) hn (by omega)
      obtain ⟨e4, e5⟩ := lowN_or (n + 1) hn (by omega)
      refine bstF_cong e2 (by omega) (m := 0) _ _ (subL_sub _ _ (Nat.and_self _)) (fun p hp => ?_) (fun t ht => ih t (by omega))
      obtain ⟨q1, q2⟩ := or_le_of_sub hp e4
      exact h _ (q2 e5) q1
    · rw [if_neg q, if_neg q]
      exact ih s (by omega)
def fM (c : Nat) : Nat := 2 ^ c - 1
def fFo (B : zBv) (v : Int32) (c : Nat) : List zE3 := fFN B v c (ordO (oB B) c)
def fHt (B : zBv) (v : Int32) (c s : Nat) : Int32 := hF (fFo B v c) s
def fSum (C : Nat → Int32) (c : Nat) : Int32 := lsT C (fM c) (fM c)
def fLg (B : zBv) (v : Int32) (c t : Nat) : Nat := lgF (fHt B v c) t ((fFo B v c).map (·.1)) 0
def fAp (B : zBv) (v : Int32) (c : Nat) : Nat := apF (fun b => nI (aMk (fun a b => fLi B a b v) c b)) c (fM c) 1 0
theorem fM_lt {c : Nat} (hc : c ≤ 9) : fM c < 512 ∧ fM c < 2 ^ c := by
  have h1 : 2 ^ c ≤ 2 ^ 9 := Nat.pow_le_pow_right (by decide) hc
  have h2 : 0 < 2 ^ c := Nat.pow_pos (by decide)
  unfold fM; omega
/-- what stands behind findAll -/
def Fnd (w u : ww) (c : Nat) : Prop := SC w u ∧ u 31 9 = nI c ∧ u 31 10 = nI (fM c) ∧ Rep u (fFo (hB w 10) (w 10 8) c) ∧ (∀ s, s < 2 ^ c → u 32 s = fHt (hB w 10) (w 10 8) c s) ∧ (∀ i, i < c → u 16 i = nI ((ordO (oB (hB w 10)) c).getD i 0)) ∧ ∀ b, b < c → u 37 b = nI (aMk (fun a b => fLi (hB w 10) a b (w 10 8)) c b)
theorem c_find {c : Nat} {w : ww} {Q : Option Value → ww → Prop} (hN : Now w c) (hQ : ∀ u, Fnd w u c → Q none u) : Ct mX7_findAll 7 [.ref 31, .ref 10] w Q := by
  refine c_X7_findAll zH10 hN.1 hN.2.1 hN.2.2 (fun u hof h9 h10 hR hz hord har => hQ u ⟨fun p hp => ?_, h9, h10, hR, fun s hs => hF_ok hR hz hs, hord, fun b hb => ?_⟩)
  · unfold Scr at hp
    exact hof p (by omega) (by omega)
  · have hm := (ordO_mem (oB (hB w 10)) c b).mpr hb
    obtain ⟨i, hi, hie⟩ := List.getElem_of_mem hm
    rw [ordO_len] at hi
    have h1 := har i hi
    rw [List.getD_eq_getElem?_getD, List.getElem?_eq_getElem (by rw [ordO_len]; exact hi), hie] at h1
    exact h1
theorem Fnd.sc {w u u2 : ww} {c : Nat} (hF : Fnd w u c) (h : ∀ p, p ≠ 35 → p ≠ 36 → u2 p = u p) : SC w u2 := fun p hp => by
  rw [h p (fun q => hp (by unfold Scr; omega)) (fun q => hp (by unfold Scr; omega))]
  exact hF.1 p hp
set_option maxHeartbeats 4000000 in
theorem c_X11_fewest {c : Nat} {w : ww} {Q : Option Value → ww → Prop} (hN : Now w c) (hQ : ∀ u, SC w u → Q (some (.int (fSum (co1 (fHt (hB w 10) (w 10 8) c) 1000000) c))) u)  : Ct mX11_fewest 8 [.ref 0] w Q := by
  refine Ct.of (by decide) (Nat.le_of_ble_eq_true rfl) (fun _ => Nat.le_of_ble_eq_true rfl) (fun G hR => ?_)
  have hE := hR.1
  refine zr_aload_n hE eX11_fewest_0 rfl ?_
  refine zr_getR hE eX11_fewest_1 fX11_55 zs0 rfl ?_
  refine zr_aload_n hE eX11_fewest_4 rfl ?_
  refine zr_getR hE eX11_fewest_5 fX11_42 zs0 rfl ?_
  refine zr_callV1 hE eX11_fewest_8 lX11_160 zs31 rfl rfl (by decide) (Nat.le_of_ble_eq_true rfl) (c_find hN (fun u hF => ?_))
  refine zr_aload_n hE eX11_fewest_11 rfl ?_
  refine zr_getR hE eX11_fewest_12 fX11_55 zs0 rfl ?_
  refine zr_ldc hE eX11_fewest_15 hX11_172 ?_
  refine zr_callV1 hE eX11_fewest_17 lX11_173 zs31 rfl rfl (by decide) (Nat.le_of_ble_eq_true rfl) (c_X7_costOneEach (m := 1000000) (fM_lt hN.1).1 hF.2.2.1 (fun u2 hof2 hco => ?_))
  refine zr_aload_n hE eX11_fewest_20 rfl ?_
  refine zr_getR hE eX11_fewest_21 fX11_55 zs0 rfl ?_
  refine zr_callV0 hE eX11_fewest_24 lX11_177 zs31 rfl rfl (by decide) (Nat.le_of_ble_eq_true rfl) (c_X7_leastSum (fM_lt hN.1).1 (by rw [hof2 31 (by decide)]; exact hF.2.2.1) (fun u3 hof3 => ?_))
  refine hR.2.1 _ _ _ _ _ _ eX11_fewest_27 rfl rfl ?_
  have hS : SC w u3 := hF.sc (fun p h1 h2 => (hof3 p h2).trans (hof2 p h1))
  have e : lsT (u2 35) (fM c) (fM c) = fSum (co1 (fHt (hB w 10) (w 10 8) c) 1000000) c := lsT_cong _ (fM_lt hN.1).1 (fun t h1 h2 => by
    rw [hco t h1 h2]
    unfold co1
    rw [hF.2.2.2.2.1 t (Nat.lt_of_le_of_lt h2 (fM_lt hN.1).2)]) _ (Nat.le_refl _)
  exact zq (hQ u3 hS) e.symm

set_option maxHeartbeats 4000000 in
theorem c_X11_carry {c : Nat} {w : ww} {Q : Option Value → ww → Prop} (hN : Now w c) (hQ : ∀ u, SC w u → Q (some (.int (fSum (coH (fHt (hB w 10) (w 10 8) c)) c))) u)  : Ct mX11_carry 8 [.ref 0] w Q := by
  refine Ct.of (by decide) (Nat.le_of_ble_eq_true rfl) (fun _ => Nat.le_of_ble_eq_true rfl) (fun G hR => ?_)
  have hE := hR.1
  refine zr_aload_n hE eX11_carry_0 rfl ?_
  refine zr_getR hE eX11_carry_1 fX11_55 zs0 rfl ?_
  refine zr_aload_n hE eX11_carry_4 rfl ?_
  refine zr_getR hE eX11_carry_5 fX11_42 zs0 rfl ?_
  refine zr_callV1 hE eX11_carry_8 lX11_160 zs31 rfl rfl (by decide) (Nat.le_of_ble_eq_true rfl) (c_find hN (fun u hF => ?_))
  refine zr_aload_n hE eX11_carry_11 rfl ?_
  refine zr_getR hE eX11_carry_12 fX11_55 zs0 rfl ?_
  refine zr_callV0 hE eX11_carry_15 lX11_183 zs31 rfl rfl (by decide) (Nat.le_of_ble_eq_true rfl) (c_X7_costHeights (fM_lt hN.1).1 hF.2.2.1 (fun u2 hof2 hco => ?_))
  refine zr_aload_n hE eX11_carry_18 rfl ?_
  refine zr_getR hE eX11_carry_19 fX11_55 zs0 rfl ?_
  refine zr_callV0 hE eX11_carry_22 lX11_177 zs31 rfl rfl (by decide) (Nat.le_of_ble_eq_true rfl) (c_X7_leastSum (fM_lt hN.1).1 (by rw [hof2 31 (by decide)]; exact hF.2.2.1) (fun u3 hof3 => ?_))
  refine hR.2.1 _ _ _ _ _ _ eX11_carry_25 rfl rfl ?_
  have hS : SC w u3 := hF.sc (fun p h1 h2 => (hof3 p h2).trans (hof2 p h1))
  have e : lsT (u2 35) (fM c) (fM c) = fSum (coH (fHt (hB w 10) (w 10 8) c)) c := lsT_cong _ (fM_lt hN.1).1 (fun t h1 h2 => by
    rw [hco t h1 h2]
    unfold coH
    rw [hF.2.2.2.2.1 t (Nat.lt_of_le_of_lt h2 (fM_lt hN.1).2)]) _ (Nat.le_refl _)
  exact zq (hQ u3 hS) e.symm

set_option maxHeartbeats 4000000 in
theorem c_X11_load {c : Nat} {m : Int32} {w : ww} {Q : Option Value → ww → Prop} (hN : Now w c) (hQ1 : fIs m 1 99 = false → Q (some (.int (-1))) w) (hQ2 : fIs m 1 99 = true → ∀ u, SC w u → Q (some (.int (if fSum (co1 (fHt (hB w 10) (w 10 8) c) m) c < 1000000 then fSum (co1 (fHt (hB w 10) (w 10 8) c) m) c else -4))) u)  : Ct mX11_load 8 [.ref 0, .int m] w Q := by
  refine Ct.of (by decide) (Nat.le_of_ble_eq_true rfl) (fun _ => Nat.le_of_ble_eq_true rfl) (fun G hR => ?_)
  have hE := hR.1
  refine zr_iload_n hE eX11_load_0 rfl ?_
  refine zr_callS1 hE eX11_load_1 lX11_120 (by decide) (Nat.le_of_ble_eq_true rfl) (c_X11_areHairs ?_)
  refine zr_bne hE eX11_load_4 (tgt := 9) (by decide) (fun zc4 => ?_) (fun zc4 => ?_)
  · refine zr_aload_n hE eX11_load_9 rfl ?_
    refine zr_getR hE eX11_load_10 fX11_55 zs0 rfl ?_
    refine zr_aload_n hE eX11_load_13 rfl ?_
    refine zr_getR hE eX11_load_14 fX11_42 zs0 rfl ?_
    refine zr_callV1 hE eX11_load_17 lX11_160 zs31 rfl rfl (by decide) (Nat.le_of_ble_eq_true rfl) (c_find hN (fun u hF => ?_))
    refine zr_aload_n hE eX11_load_20 rfl ?_
    refine zr_getR hE eX11_load_21 fX11_55 zs0 rfl ?_
    refine zr_iload_n hE eX11_load_24 rfl ?_
    refine zr_callV1 hE eX11_load_25 lX11_173 zs31 rfl rfl (by decide) (Nat.le_of_ble_eq_true rfl) (c_X7_costOneEach (m := m) (fM_lt hN.1).1 hF.2.2.1 (fun u2 hof2 hco => ?_))
    refine zr_aload_n hE eX11_load_28 rfl ?_
    refine zr_getR hE eX11_load_29 fX11_55 zs0 rfl ?_
    refine zr_callV0 hE eX11_load_32 lX11_177 zs31 rfl rfl (by decide) (Nat.le_of_ble_eq_true rfl) (c_X7_leastSum (fM_lt hN.1).1 (by rw [hof2 31 (by decide)]; exact hF.2.2.1) (fun u3 hof3 => ?_))
    refine zr_istore_n hE eX11_load_35 (by decide) rfl ?_
    refine zr_iload_n hE eX11_load_36 rfl ?_
    refine zr_ldc hE eX11_load_37 hX11_172 ?_
    refine zr_kicmp_ge hE eX11_load_39 (tgt := 46) (by decide) (fun zc39 zd39 => ?_) (fun zc39 zd39 => ?_)
    · refine zr_bipush hE eX11_load_46 (v := -4) (by decide) ?_
      refine hR.2.1 _ _ _ _ _ _ eX11_load_48 rfl rfl ?_
      have hS : SC w u3 := hF.sc (fun p h1 h2 => (hof3 p h2).trans (hof2 p h1))
      have e : lsT (u2 35) (fM c) (fM c) = fSum (co1 (fHt (hB w 10) (w 10 8) c) m) c := lsT_cong _ (fM_lt hN.1).1 (fun t h1 h2 => by
        rw [hco t h1 h2]
        unfold co1
        rw [hF.2.2.2.2.1 t (Nat.lt_of_le_of_lt h2 (fM_lt hN.1).2)]) _ (Nat.le_refl _)
      have e2 := hQ2 zc4 u3 hS
      rw [← e] at e2
      refine zq e2 ?_
      first | exact if_pos (by assumption) | exact if_neg (by assumption)
    · refine zr_iload_n hE eX11_load_42 rfl ?_
      refine zr_goto hE eX11_load_43 (tgt := 48) (by decide) ?_
      refine hR.2.1 _ _ _ _ _ _ eX11_load_48 rfl rfl ?_
      have hS : SC w u3 := hF.sc (fun p h1 h2 => (hof3 p h2).trans (hof2 p h1))
      have e : lsT (u2 35) (fM c) (fM c) = fSum (co1 (fHt (hB w 10) (w 10 8) c) m) c := lsT_cong _ (fM_lt hN.1).1 (fun t h1 h2 => by
        rw [hco t h1 h2]
        unfold co1
        rw [hF.2.2.2.2.1 t (Nat.lt_of_le_of_lt h2 (fM_lt hN.1).2)]) _ (Nat.le_refl _)
      have e2 := hQ2 zc4 u3 hS
      rw [← e] at e2
      refine zq e2 ?_
      first | exact if_pos (by assumption) | exact if_neg (by assumption)
  · refine zr_iconst hE eX11_load_7 (v := -1) (by decide) ?_
    refine hR.2.1 _ _ _ _ _ _ eX11_load_8 rfl rfl ?_
    exact hQ1 zc4

set_option maxHeartbeats 4000000 in
theorem c_X11_whole {c : Nat} {m : Int32} {w : ww} {Q : Option Value → ww → Prop} (hN : Now w c) (hQ1 : fIs m 1 9 = false → Q (some (.int (-1))) w) (hQ2 : fIs m 1 9 = true → ∀ u, SC w u → Q (some (.int (-(fSum (coW (fHt (hB w 10) (w 10 8) c) m) c)))) u)  : Ct mX11_whole 8 [.ref 0, .int m] w Q := by
  refine Ct.of (by decide) (Nat.le_of_ble_eq_true rfl) (fun _ => Nat.le_of_ble_eq_true rfl) (fun G hR => ?_)
  have hE := hR.1
  refine zr_iload_n hE eX11_whole_0 rfl ?_
  refine zr_iconst hE eX11_whole_1 (v := 1) (by decide) ?_
  refine zr_bipush hE eX11_whole_2 (v := 9) (by decide) ?_
  refine zr_callS3 hE eX11_whole_4 lX11_123 (by decide) (Nat.le_of_ble_eq_true rfl) (c_X11_isWithin ?_)
  refine zr_bne hE eX11_whole_7 (tgt := 12) (by decide) (fun zc7 => ?_) (fun zc7 => ?_)
  · refine zr_aload_n hE eX11_whole_12 rfl ?_
    refine zr_getR hE eX11_whole_13 fX11_55 zs0 rfl ?_
    refine zr_aload_n hE eX11_whole_16 rfl ?_
    refine zr_getR hE eX11_whole_17 fX11_42 zs0 rfl ?_
    refine zr_callV1 hE eX11_whole_20 lX11_160 zs31 rfl rfl (by decide) (Nat.le_of_ble_eq_true rfl) (c_find hN (fun u hF => ?_))
    refine zr_aload_n hE eX11_whole_23 rfl ?_
    refine zr_getR hE eX11_whole_24 fX11_55 zs0 rfl ?_
    refine zr_iload_n hE eX11_whole_27 rfl ?_
    refine zr_callV1 hE eX11_whole_28 lX11_186 zs31 rfl rfl (by decide) (Nat.le_of_ble_eq_true rfl) (c_X7_costLessForSetsOf (m := m) (fM_lt hN.1).1 hF.2.2.1 (fun u2 hof2 hco => ?_))
    refine zr_aload_n hE eX11_whole_31 rfl ?_
    refine zr_getR hE eX11_whole_32 fX11_55 zs0 rfl ?_
    refine zr_callV0 hE eX11_whole_35 lX11_177 zs31 rfl rfl (by decide) (Nat.le_of_ble_eq_true rfl) (c_X7_leastSum (fM_lt hN.1).1 (by rw [hof2 31 (by decide)]; exact hF.2.2.1) (fun u3 hof3 => ?_))
    refine zr_ineg hE eX11_whole_38 ?_
    refine hR.2.1 _ _ _ _ _ _ eX11_whole_39 rfl rfl ?_
    have hS : SC w u3 := hF.sc (fun p h1 h2 => (hof3 p h2).trans (hof2 p h1))
    have e : lsT (u2 35) (fM c) (fM c) = fSum (coW (fHt (hB w 10) (w 10 8) c) m) c := lsT_cong _ (fM_lt hN.1).1 (fun t h1 h2 => by
      rw [hco t h1 h2]
      unfold coW
      rw [hF.2.2.2.2.1 t (Nat.lt_of_le_of_lt h2 (fM_lt hN.1).2)]) _ (Nat.le_refl _)
    exact zq (hQ2 zc7 u3 hS) (by rw [e])
  · refine zr_iconst hE eX11_whole_10 (v := -1) (by decide) ?_
    refine hR.2.1 _ _ _ _ _ _ eX11_whole_11 rfl rfl ?_
    exact hQ1 zc7

