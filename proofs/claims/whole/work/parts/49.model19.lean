/-! The reference: from, breaks. -/
theorem wu_wu {w : ww} {o i : Nat} {a b : Int32} : wu (wu w o i a) o i b = wu w o i b := by
  funext p z
  by_cases h1 : p = o
  · subst h1
    by_cases h2 : z = i
    · subst h2; rw [wu_eq, wu_eq]
    · rw [wu_nj h2, wu_nj h2, wu_nj h2]
  · rw [wu_ne h1, wu_ne h1, wu_ne h1]
theorem mAd_1 {w : ww} {c : Nat} {k f t s d : Int32} : mAd w c k f t s d 58 1 = w 58 1 := by
  unfold mAd
  rw [wu_nj (by omega), wu_nj (by omega), wu_nj (by omega), wu_nj (by omega), wu_nj (by omega)]
theorem mAd_o {w : ww} {c : Nat} {k f t s d : Int32} {p j : Nat} (h : p ≠ 58) : mAd w c k f t s d p j = w p j := by
  unfold mAd
  rw [wu_ne h, wu_ne h, wu_ne h, wu_ne h, wu_ne h]
theorem mAd_lo {w : ww} {c j : Nat} {k f t s d : Int32} (h : j < 2 + 5 * c) : mAd w c k f t s d 58 j = w 58 j := by
  unfold mAd
  rw [wu_nj (by omega), wu_nj (by omega), wu_nj (by omega), wu_nj (by omega), wu_nj (by omega)]
theorem mAd_B {w : ww} {c : Nat} {s d : Int32} : ∀ k b, k < 5 → b ≤ c → mB (mAd w c 0 0 0 s d) k b = addB (mB w) c s d k b := by
  intro k b hk hb
  by_cases q : b = c
  · subst q
    unfold addB
    rw [if_pos rfl]
    unfold mB mAd
    rcases (by omega : k = 0 ∨ k = 1 ∨ k = 2 ∨ k = 3 ∨ k = 4) with rfl | rfl | rfl | rfl | rfl
    · rw [wu_nj (by omega), wu_nj (by omega), wu_nj (by omega), wu_nj (by omega), wu_eq]; rfl
    · rw [wu_nj (by omega), wu_nj (by omega), wu_nj (by omega), wu_eq]; rfl
    · rw [wu_nj (by omega), wu_nj (by omega), wu_eq]; rfl
    · rw [wu_nj (by omega), wu_eq]; rfl
    · rw [wu_eq]; rfl
  · unfold addB
    rw [if_neg q]
    unfold mB
    exact mAd_lo (by omega)
theorem or2c {c t : Nat} (hc : c ≤ 9) (ht : t < 2 ^ c) : t ||| 2 ^ c < 2 ^ (c + 1) := or_lt (Nat.lt_of_lt_of_le ht (Nat.pow_le_pow_right (by decide) (by omega))) (Nat.pow_lt_pow_right (by decide) (by omega))
theorem mks_add {w : ww} {c t : Nat} {s d : Int32} (hM : Mow w c) (ht : t < 2 ^ c) : Mks (mAd w c 0 0 0 s d) (t ||| 2 ^ c) := by
  intro b hb q
  have hbc : b ≤ c := Decidable.byContradiction fun h => by
    have : (t ||| 2 ^ c).testBit b = false := Nat.testBit_lt_two_pow (Nat.lt_of_lt_of_le (or2c hM.1 ht) (Nat.pow_le_pow_right (by decide) (by omega)))
    rw [this] at q; cases q
  rw [mAd_B 0 b (by decide) hbc]
  unfold addB
  by_cases h : b = c
  · rw [if_pos h, if_neg (by decide), if_neg (by decide)]; unfold vp_in; decide
  · rw [if_neg h]; exact hM.2.2 b (by omega)
def mfr (x y : Bool) : Int32 := (if x = true then 1 else 0) + (if y = true then 2 else 0)
def mfP (c : Nat) (a b s d : Int32) : Prop := (∃ t, t < 2 ^ c ∧ a = nI t) ∧ (∃ t, t < 2 ^ c ∧ b = nI t) ∧ a &&& b = 0 ∧ fIs s 1 99 = true ∧ fIs d 1 99 = true
theorem p29b {c : Nat} (h : c ≤ 9) : 2 ^ (c + 1) ≤ 1024 := Nat.pow_le_pow_right (n := 2) (by decide) (show c + 1 ≤ 10 by omega)
set_option maxHeartbeats 4000000 in
theorem c_X12_from {c : Nat} {a b s d : Int32} {w : ww} {Q : Option Value → ww → Prop} (hM : Mow w c) (hQ1 : ¬ mfP c a b s d → Q (some (.int (-1))) w) (hQ2 : mfP c a b s d → ∀ t1 t2, t1 < 2 ^ c → t2 < 2 ^ c → a = nI t1 → b = nI t2 → Q (some (.int (mfr (nsB (mB (mAd w c 0 0 0 s d)) (w 58 1) (t1 ||| 2 ^ c)) (nsB (mB (mAd w c 0 0 0 s d)) (w 58 1) (t2 ||| 2 ^ c))))) (mAd w c 0 0 0 s d)) : Ct mX12_from 8 [.ref 57, .int a, .int b, .int s, .int d] w Q := by
  refine Ct.of (by decide) (Nat.le_of_ble_eq_true rfl) (fun _ => Nat.le_of_ble_eq_true rfl) (fun G hR => ?_)
  have hE := hR.1
  refine zr_aload_n hE eX12_from_0 rfl ?_
  refine zr_iload_n hE eX12_from_1 rfl ?_
  refine zr_callV1 hE eX12_from_2 lX12_168 zs57 rfl rfl (by decide) (Nat.le_of_ble_eq_true rfl) (c_X12_areBowls ?_)
  refine zr_beq hE eX12_from_5 (tgt := 47) (by decide) (fun zc5 => ?_) (fun zc5 => ?_)
  · refine zr_iconst hE eX12_from_47 (v := -1) (by decide) ?_
    refine hR.2.1 _ _ _ _ _ _ eX12_from_48 rfl rfl ?_
    exact hQ1 (fun q => by have q2 := (areM hM.1).mpr q.1; rw [← hM.2.1, zc5] at q2; cases q2)
  · refine zr_aload_n hE eX12_from_8 rfl ?_
    refine zr_iload_n hE eX12_from_9 rfl ?_
    refine zr_callV1 hE eX12_from_10 lX12_168 zs57 rfl rfl (by decide) (Nat.le_of_ble_eq_true rfl) (c_X12_areBowls ?_)
    refine zr_beq hE eX12_from_13 (tgt := 47) (by decide) (fun zc13 => ?_) (fun zc13 => ?_)
    · refine zr_iconst hE eX12_from_47 (v := -1) (by decide) ?_
      refine hR.2.1 _ _ _ _ _ _ eX12_from_48 rfl rfl ?_
      exact hQ1 (fun q => by have q2 := (areM hM.1).mpr q.2.1; rw [← hM.2.1, zc13] at q2; cases q2)
    · refine zr_iload_n hE eX12_from_16 rfl ?_
      refine zr_iload_n hE eX12_from_17 rfl ?_
      refine zr_iand hE eX12_from_18 ?_
      refine zr_if_ne hE eX12_from_19 (tgt := 47) (by decide) (fun zc19 => ?_) (fun zc19 => ?_)
      · refine zr_iconst hE eX12_from_47 (v := -1) (by decide) ?_
        refine hR.2.1 _ _ _ _ _ _ eX12_from_48 rfl rfl ?_
        exact hQ1 (fun q => zc19 q.2.2.1)
      · refine zr_iload_n hE eX12_from_22 rfl ?_
        refine zr_i2l hE eX12_from_23 ?_
        refine zr_lconst hE eX12_from_24 (v := 1) (by decide) ?_
        refine zr_ldc2 hE eX12_from_25 hX12_151 ?_
        refine zr_callS3 hE eX12_from_28 lX12_55 (by decide) (Nat.le_of_ble_eq_true rfl) (c_X12_isIn32 1 99 (by decide) (by decide) ?_)
        refine zr_beq hE eX12_from_31 (tgt := 47) (by decide) (fun zc31 => ?_) (fun zc31 => ?_)
        · refine zr_iconst hE eX12_from_47 (v := -1) (by decide) ?_
          refine hR.2.1 _ _ _ _ _ _ eX12_from_48 rfl rfl ?_
          exact hQ1 (fun q => by rw [q.2.2.2.1] at zc31; cases zc31)
        · refine zr_iload hE eX12_from_34 rfl ?_
          refine zr_i2l hE eX12_from_36 ?_
          refine zr_lconst hE eX12_from_37 (v := 1) (by decide) ?_
          refine zr_ldc2 hE eX12_from_38 hX12_151 ?_
          refine zr_callS3 hE eX12_from_41 lX12_55 (by decide) (Nat.le_of_ble_eq_true rfl) (c_X12_isIn32 1 99 (by decide) (by decide) ?_)
          refine zr_bne hE eX12_from_44 (tgt := 49) (by decide) (fun zc44 => ?_) (fun zc44 => ?_)
          · have xP : mfP c a b s d := ⟨(areM hM.1).mp (by rw [← hM.2.1]; exact zc5), (areM hM.1).mp (by rw [← hM.2.1]; exact zc13), zc19, zc31, zc44⟩
            obtain ⟨t1, ht1, rfl⟩ := xP.1
            obtain ⟨t2, ht2, rfl⟩ := xP.2.1
            have q2 := hQ2 xP t1 t2 ht1 ht2 rfl rfl
            have xq9 := p29b hM.1
            rw [← mAd_1 (w := w) (c := c) (k := 0) (f := 0) (t := 0) (s := s) (d := d)] at q2
            refine zr_aload_n hE eX12_from_49 rfl ?_
            refine zr_iconst hE eX12_from_50 (v := 0) (by decide) ?_
            refine zr_iconst hE eX12_from_51 (v := 0) (by decide) ?_
            refine zr_iconst hE eX12_from_52 (v := 0) (by decide) ?_
            refine zr_iload_n hE eX12_from_53 rfl ?_
            refine zr_iload hE eX12_from_54 rfl ?_
            refine zr_callV5 hE eX12_from_56 lX12_156 zs57 rfl rfl (by decide) (Nat.le_of_ble_eq_true rfl) (c_X12_adds (c := c) hM.1 hM.2.1 ?_)
            refine zr_iconst hE eX12_from_59 (v := 1) (by decide) ?_
            refine zr_aload_n hE eX12_from_60 rfl ?_
            refine zr_getR hE eX12_from_61 fX12_9 zs57 rfl ?_
            refine zr_iconst hE eX12_from_64 (v := 0) (by decide) ?_
            refine zr_ialdv hE eX12_from_65 zs58 (by unfold vp_in; decide) (mAd_0.trans hM.2.1) ?_
            refine zr_ishl hE eX12_from_66 ?_
            rw [nb_sh1 c (by have := hM.1; omega)]
            refine zr_istore hE eX12_from_67 (by decide) rfl ?_
            refine zr_aload_n hE eX12_from_69 rfl ?_
            refine zr_iload_n hE eX12_from_70 rfl ?_
            refine zr_iload hE eX12_from_71 rfl ?_
            refine zr_ior hE eX12_from_73 ?_
            rw [nb_or]
            refine zr_callV1 hE eX12_from_74 lX12_171 zs57 rfl rfl (by decide) (Nat.le_of_ble_eq_true rfl) (c_X12_isNest (by have := or2c hM.1 ht1; omega) (mks_add hM ht1) ?_)
            refine zr_beq hE eX12_from_77 (tgt := 84) (by decide) (fun zc77 => ?_) (fun zc77 => ?_)
            · refine zr_iconst hE eX12_from_84 (v := 0) (by decide) ?_
              refine zr_aload_n hE eX12_from_85 rfl ?_
              refine zr_iload_n hE eX12_from_86 rfl ?_
              refine zr_iload hE eX12_from_87 rfl ?_
              refine zr_ior hE eX12_from_89 ?_
              rw [nb_or]
              refine zr_callV1 hE eX12_from_90 lX12_171 zs57 rfl rfl (by decide) (Nat.le_of_ble_eq_true rfl) (c_X12_isNest (by have := or2c hM.1 ht2; omega) (mks_add hM ht2) ?_)
              refine zr_beq hE eX12_from_93 (tgt := 100) (by decide) (fun zc93 => ?_) (fun zc93 => ?_)
              · refine zr_iconst hE eX12_from_100 (v := 0) (by decide) ?_
                refine zr_iadd hE eX12_from_101 ?_
                refine hR.2.1 _ _ _ _ _ _ eX12_from_102 rfl rfl ?_
                unfold mfr at q2
                rw [if_neg (fun q => by rw [zc77] at q; cases q), if_neg (fun q => by rw [zc93] at q; cases q)] at q2
                exact q2
              · refine zr_iconst hE eX12_from_96 (v := 2) (by decide) ?_
                refine zr_goto hE eX12_from_97 (tgt := 101) (by decide) ?_
                refine zr_iadd hE eX12_from_101 ?_
                refine hR.2.1 _ _ _ _ _ _ eX12_from_102 rfl rfl ?_
                unfold mfr at q2
                rw [if_neg (fun q => by rw [zc77] at q; cases q), if_pos zc93] at q2
                exact q2
            · refine zr_iconst hE eX12_from_80 (v := 1) (by decide) ?_
              refine zr_goto hE eX12_from_81 (tgt := 85) (by decide) ?_
              refine zr_aload_n hE eX12_from_85 rfl ?_
              refine zr_iload_n hE eX12_from_86 rfl ?_
              refine zr_iload hE eX12_from_87 rfl ?_
              refine zr_ior hE eX12_from_89 ?_
              rw [nb_or]
              refine zr_callV1 hE eX12_from_90 lX12_171 zs57 rfl rfl (by decide) (Nat.le_of_ble_eq_true rfl) (c_X12_isNest (by have := or2c hM.1 ht2; omega) (mks_add hM ht2) ?_)
              refine zr_beq hE eX12_from_93 (tgt := 100) (by decide) (fun zc93 => ?_) (fun zc93 => ?_)
              · refine zr_iconst hE eX12_from_100 (v := 0) (by decide) ?_
                refine zr_iadd hE eX12_from_101 ?_
                refine hR.2.1 _ _ _ _ _ _ eX12_from_102 rfl rfl ?_
                unfold mfr at q2
                rw [if_pos zc77, if_neg (fun q => by rw [zc93] at q; cases q)] at q2
                exact q2
              · refine zr_iconst hE eX12_from_96 (v := 2) (by decide) ?_
                refine zr_goto hE eX12_from_97 (tgt := 101) (by decide) ?_
                refine zr_iadd hE eX12_from_101 ?_
                refine hR.2.1 _ _ _ _ _ _ eX12_from_102 rfl rfl ?_
                unfold mfr at q2
                rw [if_pos zc77, if_pos zc93] at q2
                exact q2
          · refine zr_iconst hE eX12_from_47 (v := -1) (by decide) ?_
            refine hR.2.1 _ _ _ _ _ _ eX12_from_48 rfl rfl ?_
            exact hQ1 (fun q => by rw [q.2.2.2.2] at zc44; cases zc44)

theorem mB_57 {w : ww} {i : Nat} {v : Int32} : mB (wu w 57 i v) = mB w := by
  funext k b; unfold mB; rw [wu_ne (by decide)]
theorem Mow_57 {w : ww} {c i : Nat} {v : Int32} (h : Mow w c) : Mow (wu w 57 i v) c := by
  unfold Mow
  rw [mB_57, wu_ne (by decide)]
  exact h
set_option maxHeartbeats 4000000 in
theorem br_lp {G : zG} {w : ww} {Q : Option Value → ww → Prop} {z m r : Int32} {n c : Nat} (hR : zR RX12 cX12_breaks 6 9 (some .int) Q G) (hM : Mow w c) (hc0 : c ≠ 0) (hn : n ≤ 40)
    (kk : ∀ s, G 76 [some (.ref 57), some (.int (nI n)), some (.int z), some (.int m), some (.int r), some (.int (nI n))] [] (wu w 57 19 s)) :
    ∀ (k i : Nat) (s b : Int32), i ≤ n → n - i = k → bkF (nI c) k s b = r → G 47 [some (.ref 57), some (.int (nI n)), some (.int z), some (.int m), some (.int b), some (.int (nI i))] [] (wu w 57 19 s) := by
  have hE := hR.1
  have hc9 := hM.1
  intro k
  induction k with
  | zero =>
    intro i s b h1 h2 hr
    obtain rfl : i = n := by omega
    rw [bkF] at hr
    refine zr_iload hE eX12_breaks_47 rfl ?_
    refine zr_iload_n hE eX12_breaks_49 rfl ?_
    refine zr_kicmp_ge hE eX12_breaks_50 (tgt := 76) (by decide) (fun zc50 zd50 => ?_) (fun zc50 zd50 => absurd zc50 (by rw [nI_ltI (by omega) (by omega)]; omega))
    subst hr
    exact kk s
  | succ k ih =>
    intro i s b h1 h2 hr
    have hi0 : i < n := by omega
    refine zr_iload hE eX12_breaks_47 rfl ?_
    refine zr_iload_n hE eX12_breaks_49 rfl ?_
    refine zr_kicmp_ge hE eX12_breaks_50 (tgt := 76) (by decide) (fun zc50 zd50 => absurd ((nI_ltI (by omega) (by omega)).mpr hi0) zc50) (fun zc50 zd50 => ?_)
    refine zr_iload hE eX12_breaks_53 rfl ?_
    refine zr_iconst hE eX12_breaks_55 (v := 1) (by decide) ?_
    refine zr_aload_n hE eX12_breaks_56 rfl ?_
    refine zr_aload_n hE eX12_breaks_57 rfl ?_
    refine zr_getR hE eX12_breaks_58 fX12_9 zs57 rfl ?_
    refine zr_iconst hE eX12_breaks_61 (v := 0) (by decide) ?_
    refine zr_ialdv hE eX12_breaks_62 zs58 (by unfold vp_in; decide) ((wu_ne (by decide)).trans hM.2.1) ?_
    refine zr_callV1 hE eX12_breaks_63 lX12_226 zs57 rfl rfl (by decide) (Nat.le_of_ble_eq_true rfl) (c_X12_drawn (fun q => hc0 ((nI_0i (by omega)).mp q)) ?_)
    rw [wu_eq, wu_wu]
    refine zr_ishl hE eX12_breaks_66 ?_
    refine zr_ior hE eX12_breaks_67 ?_
    refine zr_istore hE eX12_breaks_68 (by decide) rfl ?_
    refine zr_iincN hE eX12_breaks_70 rfl (by decide) rfl ?_
    refine zr_goto hE eX12_breaks_73 (tgt := 47) (by decide) ?_
    exact ih (i + 1) _ _ (by omega) (by omega) (by rw [← hr]; rfl)
set_option maxHeartbeats 4000000 in
theorem c_X12_breaks {c : Nat} {n z k : Int32} {w : ww} {Q : Option Value → ww → Prop} (hM : Mow w c) (hQ1 : ¬ (fIs n 1 40 = true ∧ fIs k 0 1 = true) → Q (some (.int (-1))) w) (hQ2 : fIs n 1 40 = true ∧ fIs k 0 1 = true → c = 0 → Q (some (.int (-3))) w) (hQ3 : fIs n 1 40 = true ∧ fIs k 0 1 = true → 0 < c → ∀ m, m ≤ 40 → n = nI m → ∀ s, Q (some (.int (if k = 0 then nI (pop (bkT c m z) 10) else nI (pop (loM (mB w) (w 58 1) (nDif (2 ^ c - 1) (bkT c m z)) (nDif (2 ^ c - 1) (bkT c m z))) 10)))) (wu w 57 19 s)) : Ct mX12_breaks 9 [.ref 57, .int n, .int z, .int k] w Q := by
  refine Ct.of (by decide) (Nat.le_of_ble_eq_true rfl) (fun _ => Nat.le_of_ble_eq_true rfl) (fun G hR => ?_)
  have hE := hR.1
  refine zr_iload_n hE eX12_breaks_0 rfl ?_
  refine zr_i2l hE eX12_breaks_1 ?_
  refine zr_lconst hE eX12_breaks_2 (v := 1) (by decide) ?_
  refine zr_ldc2 hE eX12_breaks_3 hX12_224 ?_
  refine zr_callS3 hE eX12_breaks_6 lX12_55 (by decide) (Nat.le_of_ble_eq_true rfl) (c_X12_isIn32 1 40 (by decide) (by decide) ?_)
  refine zr_beq hE eX12_breaks_9 (tgt := 22) (by decide) (fun zc9 => ?_) (fun zc9 => ?_)
  · refine zr_iconst hE eX12_breaks_22 (v := -1) (by decide) ?_
    refine hR.2.1 _ _ _ _ _ _ eX12_breaks_23 rfl rfl ?_
    exact hQ1 (fun q => by rw [q.1] at zc9; cases zc9)
  · refine zr_iload_n hE eX12_breaks_12 rfl ?_
    refine zr_i2l hE eX12_breaks_13 ?_
    refine zr_lconst hE eX12_breaks_14 (v := 0) (by decide) ?_
    refine zr_lconst hE eX12_breaks_15 (v := 1) (by decide) ?_
    refine zr_callS3 hE eX12_breaks_16 lX12_55 (by decide) (Nat.le_of_ble_eq_true rfl) (c_X12_isIn32 0 1 (by decide) (by decide) ?_)
    refine zr_bne hE eX12_breaks_19 (tgt := 24) (by decide) (fun zc19 => ?_) (fun zc19 => ?_)
    · refine zr_aload_n hE eX12_breaks_24 rfl ?_
      refine zr_getR hE eX12_breaks_25 fX12_9 zs57 rfl ?_
      refine zr_iconst hE eX12_breaks_28 (v := 0) (by decide) ?_
      refine zr_ialdv hE eX12_breaks_29 zs58 (by unfold vp_in; decide) hM.2.1 ?_
      refine zr_if_ne hE eX12_breaks_30 (tgt := 36) (by decide) (fun zc30 => ?_) (fun zc30 => ?_)
      · have xc0 : c ≠ 0 := fun q => zc30 (by rw [q]; rfl)
        have hc9 := hM.1
        obtain ⟨n, xm1, rfl⟩ := fIs40 zc9
        have xb := bkT_ok (n := n) (z := z) hM.1 (Nat.pos_of_ne_zero xc0)
        have hQ3 := hQ3 ⟨zc9, zc19⟩ (Nat.pos_of_ne_zero xc0) n xm1 rfl
        have xp9 := p29 hM.1
        have xp0 : 0 < 2 ^ c := Nat.pow_pos (by decide)
        have xdl := nDif_le (2 ^ c - 1) (bkT c n z)
        have xdc : nDif (2 ^ c - 1) (bkT c n z) < 2 ^ c := by omega
        have xdt : nDif (2 ^ c - 1) (bkT c n z) < 512 := by omega
        refine zr_aload_n hE eX12_breaks_36 rfl ?_
        refine zr_iload_n hE eX12_breaks_37 rfl ?_
        refine zr_put hE eX12_breaks_38 gX12_218 zs57 rfl rfl rfl ?_
        refine zr_iconst hE eX12_breaks_41 (v := 0) (by decide) ?_
        refine zr_istore hE eX12_breaks_42 (by decide) rfl ?_
        refine zr_iconst hE eX12_breaks_44 (v := 0) (by decide) ?_
        refine zr_istore hE eX12_breaks_45 (by decide) rfl ?_
        refine br_lp (r := nI (bkT c n z)) hR hM xc0 xm1 (fun s => ?_) n 0 z 0 (Nat.zero_le _) rfl xb.1
        refine zr_iload_n hE eX12_breaks_76 rfl ?_
        refine zr_if_ne hE eX12_breaks_77 (tgt := 88) (by decide) (fun zc77 => ?_) (fun zc77 => ?_)
        · refine zr_aload_n hE eX12_breaks_88 rfl ?_
          refine zr_aload_n hE eX12_breaks_89 rfl ?_
          refine zr_callV0 hE eX12_breaks_90 lX12_59 zs57 rfl rfl (by decide) (Nat.le_of_ble_eq_true rfl) (c_X12_everything ?_)
          rw [wu_ne (by decide), hM.2.1, nb_all c (by omega)]
          refine zr_iload hE eX12_breaks_93 rfl ?_
          refine zr_iconst hE eX12_breaks_95 (v := -1) (by decide) ?_
          refine zr_ixor hE eX12_breaks_96 ?_
          refine zr_iand hE eX12_breaks_97 ?_
          rw [nb_dif]
          refine zr_callV1 hE eX12_breaks_98 lX12_180 zs57 rfl rfl (by decide) (Nat.le_of_ble_eq_true rfl) (c_X12_longestOf (t := nDif (2 ^ c - 1) (bkT c n z)) xdt ((Mow_57 hM).ks xdc) ?_)
          refine zr_callS1 hE eX12_breaks_101 lX12_177 (by decide) (Nat.le_of_ble_eq_true rfl) (c_X12_bits (by rw [mB_57, wu_ne (by decide)]; have := (loM_ok (B := mB w) (v := w 58 1) (t := nDif (2 ^ c - 1) (bkT c n z)) _ xdt).1; omega) ?_)
          refine hR.2.1 _ _ _ _ _ _ eX12_breaks_104 rfl rfl ?_
          have q := hQ3 s
          rw [if_neg zc77] at q
          rw [mB_57, wu_ne (by decide)]
          exact q
        · refine zr_iload hE eX12_breaks_80 rfl ?_
          refine zr_callS1 hE eX12_breaks_82 lX12_177 (by decide) (Nat.le_of_ble_eq_true rfl) (c_X12_bits (by omega) ?_)
          refine zr_goto hE eX12_breaks_85 (tgt := 104) (by decide) ?_
          refine hR.2.1 _ _ _ _ _ _ eX12_breaks_104 rfl rfl ?_
          have q := hQ3 s
          rw [if_pos zc77] at q
          exact q
      · refine zr_bipush hE eX12_breaks_33 (v := -3) (by decide) ?_
        refine hR.2.1 _ _ _ _ _ _ eX12_breaks_35 rfl rfl ?_
        exact hQ2 ⟨zc9, zc19⟩ ((nI_0i (by have := hM.1; omega)).mp zc30)
    · refine zr_iconst hE eX12_breaks_22 (v := -1) (by decide) ?_
      refine hR.2.1 _ _ _ _ _ _ eX12_breaks_23 rfl rfl ?_
      exact hQ1 (fun q => by rw [q.2] at zc19; cases zc19)

