/-! The reference: helps. -/
theorem lrB_cong {lz lz2 : Nat → Nat → Bool} {m a : Nat} (ha : a < m) (h : ∀ a b, a < m → b < m → lz a b = lz2 a b) : ∀ n, n ≤ m → ∀ f, lrB lz a n f = lrB lz2 a n f
  | 0, _, f => rfl
  | n + 1, hn, f => by rw [lrB, lrB, lrB_cong ha h n (by omega), h a n ha (by omega)]
theorem lrA_cong {lz lz2 : Nat → Nat → Bool} {m : Nat} (h : ∀ a b, a < m → b < m → lz a b = lz2 a b) : ∀ n, n ≤ m → ∀ f, lrA lz m n f = lrA lz2 m n f
  | 0, _, f => rfl
  | n + 1, hn, f => by rw [lrA, lrA, lrA_cong h n (by omega), lrB_cong (show n < m by omega) h m (Nat.le_refl _)]
theorem lrR_cong {lz lz2 : Nat → Nat → Bool} {m : Nat} (h : ∀ a b, a < m → b < m → lz a b = lz2 a b) : ∀ n f, lrR lz m n f = lrR lz2 m n f
  | 0, f => rfl
  | n + 1, f => by rw [lrR, lrR, lrR_cong h n, lrA_cong h m (Nat.le_refl _)]
theorem lrM_cong {lz lz2 : Nat → Nat → Bool} {m : Nat} (h : ∀ a b, a < m → b < m → lz a b = lz2 a b) : lrM lz m = lrM lz2 m := by
  unfold lrM; rw [lrR_cong h]
def hlV (B : zBv) (v : Int32) (c : Nat) (d s : Int32) : Int32 := lrM (fun a b => fLi (addB B c s d) a b v) (c + 1)
def hlR (B : zBv) (v : Int32) (c : Nat) (d : Int32) : Int32 × Int32 := hpF (hlV B v c d) 99 1 0 0
/-- only rows and places behind the bowls differ -/
def HW (w : ww) (c : Nat) (u : ww) : Prop := (∀ p, p ≠ 58 → p ≠ 70 → u p = w p) ∧ ∀ j, j < 2 + 5 * c → u 58 j = w 58 j
theorem HW.B {w : ww} {c : Nat} {u : ww} (h : HW w c u) {k b : Nat} (hk : k < 5) (hb : b < c) : mB u k b = mB w k b := by
  unfold mB; exact h.2 _ (by omega)
theorem HW.ad {w : ww} {c : Nat} {u u2 : ww} {s d : Int32} (h : HW w c u) (h2 : ∀ p, p ≠ 70 → u2 p = mAd u c 0 0 0 s d p) : HW w c u2 := by
  refine ⟨fun p hp hq => ?_, fun j hj => ?_⟩
  · rw [h2 p hq, ← h.1 p hp hq]; funext z; exact mAd_o hp
  · rw [h2 58 (by decide), mAd_lo hj]; exact h.2 j hj
theorem HW.aB {w : ww} {c : Nat} {u : ww} {s d : Int32} (h : HW w c u) {k b : Nat} (hk : k < 5) (hb : b < c + 1) : mB (mAd u c 0 0 0 s d) k b = addB (mB w) c s d k b := by
  rw [mAd_B k b hk (by omega)]
  unfold addB
  by_cases q : b = c
  · rw [if_pos q, if_pos q]
  · rw [if_neg q, if_neg q]; exact h.B hk (by omega)
theorem HW.lr {w : ww} {c : Nat} {u : ww} {s d : Int32} (h : HW w c u) : lrM (fun a b => fLi (mB (mAd u c 0 0 0 s d)) a b (mAd u c 0 0 0 s d 58 1)) (c + 1) = hlV (mB w) (w 58 1) c d s := by
  unfold hlV
  refine lrM_cong (fun a b ha hb => ?_)
  rw [mAd_1, h.2 1 (by omega)]
  exact fLi_cong (fun k hk => h.aB hk ha) (fun k hk => h.aB hk hb)
theorem HW.kd {w : ww} {c : Nat} {u : ww} {s d : Int32} (hM : Mow w c) (h : HW w c u) : ∀ b, b < c + 1 → vp_in (mB (mAd u c 0 0 0 s d) 0 b) 8 := by
  intro b hb
  rw [h.aB (by decide) hb]
  unfold addB
  by_cases q : b = c
  · rw [if_pos q, if_neg (by decide), if_neg (by decide)]; unfold vp_in; decide
  · rw [if_neg q]; exact hM.2.2 b (by omega)
set_option maxHeartbeats 4000000 in
theorem hl_lp {G : zG} {w : ww} {Q : Option Value → ww → Prop} {d k0 : Int32} {c : Nat} {r : Int32 × Int32} (hR : zR RX12 cX12_helps 7 8 (some .int) Q G) (hM : Mow w c) (hQ : ∀ u, HW w c u → Q (some (.int (if k0 = 0 then r.1 else r.2))) u) :
    ∀ (k i : Nat) (b m : Int32) (u : ww), i + k = 100 → 1 ≤ i → HW w c u → hpF (hlV (mB w) (w 58 1) c d) k i b m = r → G 32 [some (.ref 57), some (.int d), some (.int k0), some (.int b), some (.int m), some (.int (nI i)), none] [] u := by
  have hE := hR.1
  have hc9 := hM.1
  intro k
  induction k with
  | zero =>
    intro i b m u h1 h2 hu hr
    refine zr_iload hE eX12_helps_32 rfl ?_
    refine zr_bipush hE eX12_helps_34 (v := 99) (by decide) ?_
    refine zr_kicmp_gt hE eX12_helps_36 (tgt := 86) (by decide) (fun zc36 zd36 => ?_) (fun zc36 zd36 => absurd zc36 (by rw [show (99 : Int32) = nI 99 from rfl, nI_leI (by omega) (by decide)]; omega))
    refine zr_iload_n hE eX12_helps_86 rfl ?_
    refine zr_if_ne hE eX12_helps_87 (tgt := 94) (by decide) (fun zc87 => ?_) (fun zc87 => ?_)
    · refine zr_iload hE eX12_helps_94 rfl ?_
      refine hR.2.1 _ _ _ _ _ _ eX12_helps_96 rfl rfl ?_
      rw [hpF] at hr
      have q := hQ u hu
      rw [if_neg zc87, ← hr] at q
      exact q
    · refine zr_iload_n hE eX12_helps_90 rfl ?_
      refine zr_goto hE eX12_helps_91 (tgt := 96) (by decide) ?_
      refine hR.2.1 _ _ _ _ _ _ eX12_helps_96 rfl rfl ?_
      rw [hpF] at hr
      have q := hQ u hu
      rw [if_pos zc87, ← hr] at q
      exact q
  | succ k ih =>
    intro i b m u h1 h2 hu hr
    have xi0 : i ≤ 99 := by omega
    refine zr_iload hE eX12_helps_32 rfl ?_
    refine zr_bipush hE eX12_helps_34 (v := 99) (by decide) ?_
    refine zr_kicmp_gt hE eX12_helps_36 (tgt := 86) (by decide) (fun zc36 zd36 => absurd ((nI_leI (by omega) (by decide)).mpr xi0) zc36) (fun zc36 zd36 => ?_)
    refine zr_aload_n hE eX12_helps_39 rfl ?_
    refine zr_iconst hE eX12_helps_40 (v := 0) (by decide) ?_
    refine zr_iconst hE eX12_helps_41 (v := 0) (by decide) ?_
    refine zr_iconst hE eX12_helps_42 (v := 0) (by decide) ?_
    refine zr_iload hE eX12_helps_43 rfl ?_
    refine zr_iload_n hE eX12_helps_45 rfl ?_
    refine zr_callV5 hE eX12_helps_46 lX12_156 zs57 rfl rfl (by decide) (Nat.le_of_ble_eq_true rfl) (c_X12_adds (c := c) hM.1 ((hu.2 0 (by omega)).trans hM.2.1) ?_)
    refine zr_aload_n hE eX12_helps_49 rfl ?_
    refine zr_aload_n hE eX12_helps_50 rfl ?_
    refine zr_getR hE eX12_helps_51 fX12_9 zs57 rfl ?_
    refine zr_iconst hE eX12_helps_54 (v := 0) (by decide) ?_
    refine zr_ialdv hE eX12_helps_55 zs58 (by unfold vp_in; decide) (mAd_0.trans ((hu.2 0 (by omega)).trans hM.2.1)) ?_
    refine zr_iconst hE eX12_helps_56 (v := 1) (by decide) ?_
    refine zr_iadd hE eX12_helps_57 ?_
    rw [nI_1]
    refine zr_callV1 hE eX12_helps_58 lX12_199 zs57 rfl rfl (by decide) (Nat.le_of_ble_eq_true rfl) (c_X12_longestRow (m := c + 1) (by omega) (HW.kd hM hu) (fun u2 hu2 => ?_))
    rw [hu.lr]
    refine zr_istore hE eX12_helps_61 (by decide) rfl ?_
    refine zr_iload hE eX12_helps_63 rfl ?_
    refine zr_iload hE eX12_helps_65 rfl ?_
    refine zr_kicmp_gt hE eX12_helps_67 (tgt := 73) (by decide) (fun zc67 zd67 => ?_) (fun zc67 zd67 => ?_)
    · refine zr_iload hE eX12_helps_73 rfl ?_
      refine zr_istore_n hE eX12_helps_75 (by decide) rfl ?_
      refine zr_iload hE eX12_helps_76 rfl ?_
      refine zr_istore hE eX12_helps_78 (by decide) rfl ?_
      refine zr_iincN hE eX12_helps_80 rfl (by decide) rfl ?_
      refine zr_goto hE eX12_helps_83 (tgt := 32) (by decide) ?_
      refine zr_mask hE [true, true, true, true, true, true, false] ?_
      exact ih (i + 1) _ _ u2 (by omega) (by omega) (hu.ad hu2) (by rw [← hr, hpF, if_pos (Int32.not_le.mp zc67)])
    · refine zr_goto hE eX12_helps_70 (tgt := 80) (by decide) ?_
      refine zr_iincN hE eX12_helps_80 rfl (by decide) rfl ?_
      refine zr_goto hE eX12_helps_83 (tgt := 32) (by decide) ?_
      refine zr_mask hE [true, true, true, true, true, true, false] ?_
      exact ih (i + 1) _ _ u2 (by omega) (by omega) (hu.ad hu2) (by rw [← hr, hpF, if_neg (Int32.not_lt.mpr zc67)])
set_option maxHeartbeats 4000000 in
theorem c_X12_helps {c : Nat} {d k : Int32} {w : ww} {Q : Option Value → ww → Prop} (hM : Mow w c) (hQ1 : ¬ (fIs d 1 99 = true ∧ fIs k 0 1 = true) → Q (some (.int (-1))) w) (hQ2 : fIs d 1 99 = true ∧ fIs k 0 1 = true → ∀ u, HW w c u → Q (some (.int (if k = 0 then (hlR (mB w) (w 58 1) c d).1 else (hlR (mB w) (w 58 1) c d).2))) u) : Ct mX12_helps 8 [.ref 57, .int d, .int k] w Q := by
  refine Ct.of (by decide) (Nat.le_of_ble_eq_true rfl) (fun _ => Nat.le_of_ble_eq_true rfl) (fun G hR => ?_)
  have hE := hR.1
  refine zr_iload_n hE eX12_helps_0 rfl ?_
  refine zr_i2l hE eX12_helps_1 ?_
  refine zr_lconst hE eX12_helps_2 (v := 1) (by decide) ?_
  refine zr_ldc2 hE eX12_helps_3 hX12_151 ?_
  refine zr_callS3 hE eX12_helps_6 lX12_55 (by decide) (Nat.le_of_ble_eq_true rfl) (c_X12_isIn32 1 99 (by decide) (by decide) ?_)
  refine zr_beq hE eX12_helps_9 (tgt := 22) (by decide) (fun zc9 => ?_) (fun zc9 => ?_)
  · refine zr_iconst hE eX12_helps_22 (v := -1) (by decide) ?_
    refine hR.2.1 _ _ _ _ _ _ eX12_helps_23 rfl rfl ?_
    exact hQ1 (fun q => by rw [q.1] at zc9; cases zc9)
  · refine zr_iload_n hE eX12_helps_12 rfl ?_
    refine zr_i2l hE eX12_helps_13 ?_
    refine zr_lconst hE eX12_helps_14 (v := 0) (by decide) ?_
    refine zr_lconst hE eX12_helps_15 (v := 1) (by decide) ?_
    refine zr_callS3 hE eX12_helps_16 lX12_55 (by decide) (Nat.le_of_ble_eq_true rfl) (c_X12_isIn32 0 1 (by decide) (by decide) ?_)
    refine zr_bne hE eX12_helps_19 (tgt := 24) (by decide) (fun zc19 => ?_) (fun zc19 => ?_)
    · refine zr_iconst hE eX12_helps_24 (v := 0) (by decide) ?_
      refine zr_istore_n hE eX12_helps_25 (by decide) rfl ?_
      refine zr_iconst hE eX12_helps_26 (v := 0) (by decide) ?_
      refine zr_istore hE eX12_helps_27 (by decide) rfl ?_
      refine zr_iconst hE eX12_helps_29 (v := 1) (by decide) ?_
      refine zr_istore hE eX12_helps_30 (by decide) rfl ?_
      exact hl_lp hR hM (hQ2 ⟨zc9, zc19⟩) 99 1 0 0 w rfl (by decide) ⟨fun p _ _ => rfl, fun j _ => rfl⟩ rfl
    · refine zr_iconst hE eX12_helps_22 (v := -1) (by decide) ?_
      refine hR.2.1 _ _ _ _ _ _ eX12_helps_23 rfl rfl ?_
      exact hQ1 (fun q => by rw [q.2] at zc19; cases zc19)

