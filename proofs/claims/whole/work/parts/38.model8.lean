/-! The reference: whole. -/
def woL (f : Nat → Int32) (N : Nat → Bool) (k : Int32) (s : Nat) : List Nat → Int32 → Int32
  | [], m => m
  | p :: l, m => if p ≠ 0 ∧ nI (pop p 10) = k ∧ N p = true then woL f N k s l (mx m (1 + f (nDif s p &&& (2 ^ Nat.log2 p - 1)))) else woL f N k s l m
def woF (N : Nat → Bool) (k : Int32) : Nat → Nat → Int32
  | 0, _ => 0
  | j + 1, s => woL (woF N k j) N k s (subL s 1024 s) 0
theorem nI_sub1 {a : Nat} (h : 0 < a) : nI a - 1 = nI (a - 1) := by
  obtain ⟨m, rfl⟩ : ∃ m, a = m + 1 := ⟨a - 1, by omega⟩
  rw [nI_pred]; rfl
set_option maxHeartbeats 4000000 in
theorem wo_hi {G : zG} {w : ww} {s p n : Nat} {k m : Int32} (hE : zE RX12 cX12_wholeOf 7 n G) (hp : p < 512) (h0 : p ≠ 0) (kk : G 50 [some (.ref 57), some (.int (nI s)), some (.int k), some (.int m), some (.int (nI p)), some (.int (nI (2 ^ (Nat.log2 p + 1)))), none] [] w) :
    ∀ (d i : Nat), i ≤ Nat.log2 p + 1 → Nat.log2 p + 1 - i = d → G 34 [some (.ref 57), some (.int (nI s)), some (.int k), some (.int m), some (.int (nI p)), some (.int (nI (2 ^ i))), none] [] w := by
  have xl1 : 2 ^ Nat.log2 p ≤ p := Nat.log2_self_le h0
  have xl2 : p < 2 ^ (Nat.log2 p + 1) := Nat.lt_log2_self
  have xl3 : Nat.log2 p < 9 := (Nat.log2_lt h0).mpr (by omega)
  have xl4 : 2 ^ (Nat.log2 p + 1) ≤ 2 ^ 9 := Nat.pow_le_pow_right (by decide) (by omega)
  intro d
  induction d with
  | zero =>
    intro i h1 h2
    obtain rfl : i = Nat.log2 p + 1 := by omega
    refine zr_iload hE eX12_wholeOf_34 rfl ?_
    refine zr_iload hE eX12_wholeOf_36 rfl ?_
    refine zr_kicmp_gt hE eX12_wholeOf_38 (tgt := 50) (by decide) (fun zc38 zd38 => ?_) (fun zc38 zd38 => absurd zc38 (by rw [nI_leI (by omega) (by omega)]; omega))
    exact kk
  | succ d ih =>
    intro i h1 h2
    have xle : 2 ^ i ≤ p := Nat.le_trans (Nat.pow_le_pow_right (by decide) (by omega)) xl1
    refine zr_iload hE eX12_wholeOf_34 rfl ?_
    refine zr_iload hE eX12_wholeOf_36 rfl ?_
    refine zr_kicmp_gt hE eX12_wholeOf_38 (tgt := 50) (by decide) (fun zc38 zd38 => absurd ((nI_leI (by omega) (by omega)).mpr xle) zc38) (fun zc38 zd38 => ?_)
    refine zr_iload hE eX12_wholeOf_41 rfl ?_
    refine zr_iconst hE eX12_wholeOf_43 (v := 2) (by decide) ?_
    refine zr_imul hE eX12_wholeOf_44 ?_
    show G _ _ (.int (nI (2 ^ i) * nI 2) :: _) _
    rw [nI_mulN, ← Nat.pow_succ]
    refine zr_istore hE eX12_wholeOf_45 (by decide) rfl ?_
    refine zr_goto hE eX12_wholeOf_47 (tgt := 34) (by decide) ?_
    exact ih (i + 1) (by omega) (by omega)
set_option maxHeartbeats 4000000 in
theorem wo_lp {G : zG} {w : ww} {Q : Option Value → ww → Prop} {s j : Nat} {k r : Int32} {F : Nat → Int32} (hj : j ≤ 9) (hs : s < 2 ^ (j + 1)) (hs9 : s < 512) (hk : Mks w s) (hR : zR RX12 cX12_wholeOf 7 (8 + j + 1) (some .int) Q G)
    (rec : ∀ s2, s2 < 2 ^ j → Mks w s2 → ∀ Q2 : Option Value → ww → Prop, Q2 (some (.int (F s2))) w → Ct mX12_wholeOf (8 + j) [.ref 57, .int (nI s2), .int k] w Q2) (hQ : Q (some (.int r)) w) :
    ∀ (f p : Nat) (m : Int32), p < f → p ≤ s → (∀ b, p.testBit b = true → s.testBit b = true) → woL F (fun s => nsB (mB w) (w 58 1) s) k s (subL s f p) m = r → G 5 [some (.ref 57), some (.int (nI s)), some (.int k), some (.int m), some (.int (nI p)), none, none] [] w := by
  have hE := hR.1
  intro f
  induction f with
  | zero => intro p m h1; omega
  | succ f ih0 =>
    intro p m h1 hps hsub hr
    have ih : ∀ (p : Nat) (m : Int32), p < f → p ≤ s → (∀ b, p.testBit b = true → s.testBit b = true) → woL F (fun s => nsB (mB w) (w 58 1) s) k s (subL s f p) m = r → G 5 [some (.ref 57), some (.int (nI s)), some (.int k), some (.int m), some (.int (nI p)), none, none] [] w := ih0
    by_cases h0 : p = 0
    · subst h0
      refine zr_iload hE eX12_wholeOf_5 rfl ?_
      refine zr_kif_le hE eX12_wholeOf_7 (tgt := 96) (by decide) (fun zc7 zd7 => ?_) (fun zc7 zd7 => absurd zc7 (by decide))
      refine zr_iload_n hE eX12_wholeOf_96 rfl ?_
      refine hR.2.1 _ _ _ _ _ _ eX12_wholeOf_97 rfl rfl ?_
      rw [subL, if_pos rfl, woL, if_neg (fun q => q.1 rfl), woL] at hr
      rw [hr]
      exact hQ
    have half : ∀ (m2 : Int32), woL F (fun s => nsB (mB w) (w 58 1) s) k s (subL s f ((p - 1) &&& s)) m2 = r → G 85 [some (.ref 57), some (.int (nI s)), some (.int k), some (.int m2), some (.int (nI p)), none, none] [] w := by
      intro m2 hr2
      refine zr_iload hE eX12_wholeOf_85 rfl ?_
      refine zr_iconst hE eX12_wholeOf_87 (v := 1) (by decide) ?_
      refine zr_isub hE eX12_wholeOf_88 ?_
      rw [nI_sub1 (by omega)]
      refine zr_iload_n hE eX12_wholeOf_89 rfl ?_
      refine zr_iand hE eX12_wholeOf_90 ?_
      rw [nb_and]
      refine zr_istore hE eX12_wholeOf_91 (by decide) rfl ?_
      refine zr_goto hE eX12_wholeOf_93 (tgt := 5) (by decide) ?_
      exact ih ((p - 1) &&& s) m2 (by have := Nat.and_le_left (n := p - 1) (m := s); omega) (Nat.and_le_right) (fun b q => by rw [Nat.testBit_and] at q; simp at q; exact q.2) hr2
    refine zr_iload hE eX12_wholeOf_5 rfl ?_
    refine zr_kif_le hE eX12_wholeOf_7 (tgt := 96) (by decide) (fun zc7 zd7 => absurd ((nI_ltI (show 0 < 2 ^ 31 by decide) (by omega)).mpr (by omega)) zc7) (fun zc7 zd7 => ?_)
    refine zr_iload hE eX12_wholeOf_10 rfl ?_
    refine zr_callS1 hE eX12_wholeOf_12 lX12_177 (by omega) (Nat.le_of_ble_eq_true rfl) (c_X12_bits (by omega) ?_)
    refine zr_iload_n hE eX12_wholeOf_15 rfl ?_
    refine zr_icmp_ne hE eX12_wholeOf_16 (tgt := 85) (by decide) (fun zc16 => ?_) (fun zc16 => ?_)
    · refine zr_mask hE [true, true, true, true, true, false, false] ?_
      exact half m (by rw [subL, if_neg h0, woL, if_neg (fun q => zc16 q.2.1)] at hr; exact hr)
    · refine zr_aload_n hE eX12_wholeOf_19 rfl ?_
      refine zr_iload hE eX12_wholeOf_20 rfl ?_
      refine zr_callV1 hE eX12_wholeOf_22 lX12_171 zs57 rfl rfl (by omega) (Nat.le_of_ble_eq_true rfl) (c_X12_isNest (by omega) (hk.sub hsub) ?_)
      refine zr_bne hE eX12_wholeOf_25 (tgt := 31) (by decide) (fun zc25 => ?_) (fun zc25 => ?_)
      · refine zr_iconst hE eX12_wholeOf_31 (v := 1) (by decide) ?_
        refine zr_istore hE eX12_wholeOf_32 (by decide) rfl ?_
        have xl1 : 2 ^ Nat.log2 p ≤ p := Nat.log2_self_le h0
        have xl3 : Nat.log2 p < 9 := (Nat.log2_lt h0).mpr (by omega)
        have xl4 : 2 ^ (Nat.log2 p + 1) ≤ 2 ^ 9 := Nat.pow_le_pow_right (by decide) (by omega)
        have xhalf : 2 ^ (Nat.log2 p + 1) / 2 = 2 ^ Nat.log2 p := by rw [Nat.pow_succ, Nat.mul_div_cancel _ (by decide)]
        have xj : Nat.log2 p ≤ j := Nat.le_of_lt_succ ((Nat.log2_lt h0).mpr (by omega))
        have xrl : nDif s p &&& (2 ^ Nat.log2 p - 1) < 2 ^ j := by
          have y1 := Nat.and_le_right (n := nDif s p) (m := 2 ^ Nat.log2 p - 1)
          have y2 : 2 ^ Nat.log2 p ≤ 2 ^ j := Nat.pow_le_pow_right (by decide) xj
          have y3 : 0 < 2 ^ j := Nat.pow_pos (by decide)
          omega
        have xrs : ∀ b, (nDif s p &&& (2 ^ Nat.log2 p - 1)).testBit b = true → s.testBit b = true := fun b q => by
          rw [Nat.testBit_and] at q; simp at q
          exact nDif_sub (by omega) q.1
        refine wo_hi hE (by omega) h0 ?_ (Nat.log2 p + 1) 0 (Nat.zero_le _) (by omega)
        refine zr_iconst hE eX12_wholeOf_50 (v := 1) (by decide) ?_
        refine zr_aload_n hE eX12_wholeOf_51 rfl ?_
        refine zr_iload_n hE eX12_wholeOf_52 rfl ?_
        refine zr_iload hE eX12_wholeOf_53 rfl ?_
        refine zr_iconst hE eX12_wholeOf_55 (v := -1) (by decide) ?_
        refine zr_ixor hE eX12_wholeOf_56 ?_
        refine zr_iand hE eX12_wholeOf_57 ?_
        show G _ _ (.int (nI s &&& (nI p ^^^ (-1))) :: _) _
        rw [nb_dif]
        refine zr_iload hE eX12_wholeOf_58 rfl ?_
        refine zr_iconst hE eX12_wholeOf_60 (v := 2) (by decide) ?_
        refine zr_idiv hE eX12_wholeOf_61 (by decide) ?_
        show G _ _ (.int (nI (2 ^ (Nat.log2 p + 1)) / nI 2) :: _) _
        rw [nI_div (by omega) (by decide) (by decide), xhalf]
        refine zr_iconst hE eX12_wholeOf_62 (v := 1) (by decide) ?_
        refine zr_isub hE eX12_wholeOf_63 ?_
        rw [nI_sub1 (Nat.pow_pos (by decide))]
        refine zr_iand hE eX12_wholeOf_64 ?_
        rw [nb_and]
        refine zr_iload_n hE eX12_wholeOf_65 rfl ?_
        refine zr_callV2 hE eX12_wholeOf_66 lX12_193 zs57 rfl rfl (by omega) (Nat.le_of_ble_eq_true rfl) (rec _ xrl (hk.sub xrs) _ ?_)
        refine zr_iadd hE eX12_wholeOf_69 ?_
        refine zr_istore hE eX12_wholeOf_70 (by decide) rfl ?_
        refine zr_iload hE eX12_wholeOf_72 rfl ?_
        refine zr_iload_n hE eX12_wholeOf_74 rfl ?_
        refine zr_kicmp_le hE eX12_wholeOf_75 (tgt := 83) (by decide) (fun zc75 zd75 => ?_) (fun zc75 zd75 => ?_)
        · refine zr_iload_n hE eX12_wholeOf_83 rfl ?_
          refine zr_istore_n hE eX12_wholeOf_84 (by decide) rfl ?_
          refine zr_mask hE [true, true, true, true, true, false, false] ?_
          exact half _ (by rw [subL, if_neg h0, woL, if_pos ⟨h0, zc16, zc25⟩, mx, if_neg zc75] at hr; exact hr)
        · refine zr_iload hE eX12_wholeOf_78 rfl ?_
          refine zr_goto hE eX12_wholeOf_80 (tgt := 84) (by decide) ?_
          refine zr_istore_n hE eX12_wholeOf_84 (by decide) rfl ?_
          refine zr_mask hE [true, true, true, true, true, false, false] ?_
          exact half _ (by rw [subL, if_neg h0, woL, if_pos ⟨h0, zc16, zc25⟩, mx, if_pos zc75] at hr; exact hr)
      · refine zr_goto hE eX12_wholeOf_28 (tgt := 85) (by decide) ?_
        refine zr_mask hE [true, true, true, true, true, false, false] ?_
        exact half m (by rw [subL, if_neg h0, woL, if_neg (fun q => by rw [zc25] at q; cases q.2.2)] at hr; exact hr)
theorem c_X12_wholeOf {k : Int32} {w : ww} : ∀ (j s : Nat), j ≤ 9 → s < 2 ^ j → Mks w s → ∀ Q : Option Value → ww → Prop, Q (some (.int (woF (fun s => nsB (mB w) (w 58 1) s) k j s))) w → Ct mX12_wholeOf (8 + j) [.ref 57, .int (nI s), .int k] w Q := by
  intro j
  induction j with
  | zero =>
    intro s _ hs hk Q hQ
    obtain rfl : s = 0 := by omega
    refine Ct.of (by decide) (Nat.le_of_ble_eq_true rfl) (fun _ => Nat.le_of_ble_eq_true rfl) (fun G hR => ?_)
    have hE := hR.1
    refine zr_iconst hE eX12_wholeOf_0 (v := 0) (by decide) ?_
    refine zr_istore_n hE eX12_wholeOf_1 (by decide) rfl ?_
    refine zr_iload_n hE eX12_wholeOf_2 rfl ?_
    refine zr_istore hE eX12_wholeOf_3 (by decide) rfl ?_
    refine zr_iload hE eX12_wholeOf_5 rfl ?_
    refine zr_kif_le hE eX12_wholeOf_7 (tgt := 96) (by decide) (fun zc7 zd7 => ?_) (fun zc7 zd7 => absurd zc7 (by decide))
    refine zr_iload_n hE eX12_wholeOf_96 rfl ?_
    refine hR.2.1 _ _ _ _ _ _ eX12_wholeOf_97 rfl rfl ?_
    exact hQ
  | succ j ih =>
    intro s hj hs hk Q hQ
    refine Ct.of (by decide) (Nat.le_of_ble_eq_true rfl) (fun _ => Nat.le_of_ble_eq_true rfl) (fun G hR => ?_)
    have hE := hR.1
    have hs9 : s < 512 := Nat.lt_of_lt_of_le hs (show 2 ^ (j + 1) ≤ 2 ^ 9 from Nat.pow_le_pow_right (by decide) hj)
    refine zr_iconst hE eX12_wholeOf_0 (v := 0) (by decide) ?_
    refine zr_istore_n hE eX12_wholeOf_1 (by decide) rfl ?_
    refine zr_iload_n hE eX12_wholeOf_2 rfl ?_
    refine zr_istore hE eX12_wholeOf_3 (by decide) rfl ?_
    exact wo_lp (by omega) hs hs9 hk hR (fun s2 h2 hk2 Q2 hQ2 => ih s2 (by omega) h2 hk2 Q2 hQ2) hQ 1024 s 0 (by omega) (Nat.le_refl _) (fun _ q => q) rfl
set_option maxHeartbeats 4000000 in
theorem c_X12_whole {c : Nat} {m : Int32} {w : ww} {Q : Option Value → ww → Prop} (hM : Mow w c) (hQ1 : fIs m 1 9 = false → Q (some (.int (-1))) w) (hQ2 : fIs m 1 9 = true → Q (some (.int (woF (fun s => nsB (mB w) (w 58 1) s) m 9 (2 ^ c - 1)))) w) : Ct mX12_whole 18 [.ref 57, .int m] w Q := by
  refine Ct.of (by decide) (Nat.le_of_ble_eq_true rfl) (fun _ => Nat.le_of_ble_eq_true rfl) (fun G hR => ?_)
  have hE := hR.1
  refine zr_iload_n hE eX12_whole_0 rfl ?_
  refine zr_i2l hE eX12_whole_1 ?_
  refine zr_lconst hE eX12_whole_2 (v := 1) (by decide) ?_
  refine zr_ldc2 hE eX12_whole_3 hX12_160 ?_
  refine zr_callS3 hE eX12_whole_6 lX12_55 (by decide) (Nat.le_of_ble_eq_true rfl) (c_X12_isIn32 1 9 (by decide) (by decide) ?_)
  refine zr_beq hE eX12_whole_9 (tgt := 24) (by decide) (fun zc9 => ?_) (fun zc9 => ?_)
  · refine zr_iconst hE eX12_whole_24 (v := -1) (by decide) ?_
    refine hR.2.1 _ _ _ _ _ _ eX12_whole_25 rfl rfl ?_
    exact hQ1 zc9
  · refine zr_aload_n hE eX12_whole_12 rfl ?_
    refine zr_aload_n hE eX12_whole_13 rfl ?_
    refine zr_callV0 hE eX12_whole_14 lX12_59 zs57 rfl rfl (by decide) (Nat.le_of_ble_eq_true rfl) (c_X12_everything ?_)
    rw [hM.2.1, nb_all c (by have := hM.1; omega)]
    refine zr_iload_n hE eX12_whole_17 rfl ?_
    refine zr_callV2 hE eX12_whole_18 lX12_193 zs57 rfl rfl (by decide) (Nat.le_of_ble_eq_true rfl) (c_X12_wholeOf 9 _ (by decide) (by have := p29 hM.1; have := Nat.pow_pos (n := c) (show 0 < 2 by decide); omega) (hM.ks (by have := Nat.pow_pos (n := c) (show 0 < 2 by decide); omega)) _ ?_)
    refine zr_goto hE eX12_whole_21 (tgt := 25) (by decide) ?_
    refine hR.2.1 _ _ _ _ _ _ eX12_whole_25 rfl rfl ?_
    exact hQ2 zc9

