/-! The reference: row, copy. -/
def mroP (d so n : Int32) : Prop := fIs d 0 7 = true ∧ fIs so 0 2 = true ∧ n ≤ 100
def mroW (w : ww) (dn : Nat) (so n : Int32) : ww := wu (wu (wu w 61 dn 2) 62 dn so) 63 dn n
set_option maxHeartbeats 4000000 in
theorem ro_lp {G : zG} {w : ww} {Q : Option Value → ww → Prop} {dn : Nat} {so n : Int32} (hR : zR RX12 cX12_row 5 3 (some .int) Q G) (hd : dn < 8)
    (kk : ∀ u : ww, (∀ p, p ≠ 64 → u p = w p) → (∀ j, u 64 j = if 100 * dn ≤ j ∧ j < 100 * dn + 100 then 0 else w 64 j) → Q (some (.int 0)) u) :
    ∀ (k i : Nat) (u : ww), i ≤ 100 → 100 - i = k → (∀ p, p ≠ 64 → u p = w p) → (∀ j, u 64 j = if 100 * dn ≤ j ∧ j < 100 * dn + i then 0 else w 64 j) → G 58 [some (.ref 57), some (.int (nI dn)), some (.int so), some (.int n), some (.int (nI i))] [] u := by
  have hE := hR.1
  intro k
  induction k with
  | zero =>
    intro i u h1 h2 hu1 hu2
    refine zr_iload hE eX12_row_58 rfl ?_
    refine zr_bipush hE eX12_row_60 (v := 100) (by decide) ?_
    refine zr_kicmp_ge hE eX12_row_62 (tgt := 84) (by decide) (fun zc62 zd62 => ?_) (fun zc62 zd62 => absurd zc62 (by rw [show (100 : Int32) = nI 100 from rfl, nI_ltI (by omega) (by decide)]; omega))
    refine zr_iconst hE eX12_row_84 (v := 0) (by decide) ?_
    refine hR.2.1 _ _ _ _ _ _ eX12_row_85 rfl rfl ?_
    obtain rfl : i = 100 := by omega
    exact kk u hu1 hu2
  | succ k ih =>
    intro i u h1 h2 hu1 hu2
    refine zr_iload hE eX12_row_58 rfl ?_
    refine zr_bipush hE eX12_row_60 (v := 100) (by decide) ?_
    refine zr_kicmp_ge hE eX12_row_62 (tgt := 84) (by decide) (fun zc62 zd62 => absurd ((nI_ltI (by omega) (by decide)).mpr (show i < 100 by omega)) zc62) (fun zc62 zd62 => ?_)
    refine zr_aload_n hE eX12_row_65 rfl ?_
    refine zr_getR hE eX12_row_66 fX12_28 zs57 rfl ?_
    refine zr_bipush hE eX12_row_69 (v := 100) (by decide) ?_
    refine zr_iload_n hE eX12_row_71 rfl ?_
    refine zr_imul hE eX12_row_72 ?_
    refine zr_iload hE eX12_row_73 rfl ?_
    refine zr_iadd hE eX12_row_75 ?_
    show G _ _ (.int ((100 : Int32) * nI dn + nI i) :: _) _
    rw [eix]
    refine zr_iconst hE eX12_row_76 (v := 0) (by decide) ?_
    refine zr_iast hE eX12_row_77 zs64 (vpn (show 100 * dn + i < 800 by omega) (by decide)) ?_
    refine zr_iincN hE eX12_row_78 rfl (by decide) rfl ?_
    refine zr_goto hE eX12_row_81 (tgt := 58) (by decide) ?_
    rw [nI_clamp (by omega)]
    refine ih (i + 1) _ (by omega) (by omega) (fun p hp => ?_) (fun j => ?_)
    · rw [← hu1 p hp]; funext z; rw [wu_ne hp]
    · by_cases q : j = 100 * dn + i
      · rw [q, wu_eq, if_pos (by omega)]
      · rw [wu_nj q, hu2 j]
        by_cases q2 : 100 * dn ≤ j ∧ j < 100 * dn + i
        · rw [if_pos q2, if_pos (by omega)]
        · rw [if_neg q2, if_neg (by omega)]
set_option maxHeartbeats 4000000 in
theorem c_X12_row {d so n : Int32} {w : ww} {Q : Option Value → ww → Prop} (hQ1 : ¬ mroP d so n → Q (some (.int (-1))) w) (hQ2 : mroP d so n → n < 0 → Q (some (.int (-14))) w) (hQ3 : mroP d so n → ¬ n < 0 → ∀ dn, dn < 8 → d = nI dn → ∀ u : ww, (∀ p, p ≠ 64 → u p = mroW w dn so n p) → (∀ j, u 64 j = if 100 * dn ≤ j ∧ j < 100 * dn + 100 then 0 else w 64 j) → Q (some (.int 0)) u) : Ct mX12_row 3 [.ref 57, .int d, .int so, .int n] w Q := by
  refine Ct.of (by decide) (Nat.le_of_ble_eq_true rfl) (fun _ => Nat.le_of_ble_eq_true rfl) (fun G hR => ?_)
  have hE := hR.1
  refine zr_iload_n hE eX12_row_0 rfl ?_
  refine zr_callS1 hE eX12_row_1 lX12_129 (by decide) (Nat.le_of_ble_eq_true rfl) (c_X12_isShelf ?_)
  refine zr_beq hE eX12_row_4 (tgt := 25) (by decide) (fun zc4 => ?_) (fun zc4 => ?_)
  · refine zr_iconst hE eX12_row_25 (v := -1) (by decide) ?_
    refine hR.2.1 _ _ _ _ _ _ eX12_row_26 rfl rfl ?_
    exact hQ1 (fun q => by rw [q.1] at zc4; cases zc4)
  · refine zr_iload_n hE eX12_row_7 rfl ?_
    refine zr_i2l hE eX12_row_8 ?_
    refine zr_lconst hE eX12_row_9 (v := 0) (by decide) ?_
    refine zr_ldc2 hE eX12_row_10 hX12_233 ?_
    refine zr_callS3 hE eX12_row_13 lX12_55 (by decide) (Nat.le_of_ble_eq_true rfl) (c_X12_isIn32 0 2 (by decide) (by decide) ?_)
    refine zr_beq hE eX12_row_16 (tgt := 25) (by decide) (fun zc16 => ?_) (fun zc16 => ?_)
    · refine zr_iconst hE eX12_row_25 (v := -1) (by decide) ?_
      refine hR.2.1 _ _ _ _ _ _ eX12_row_26 rfl rfl ?_
      exact hQ1 (fun q => by rw [q.2.1] at zc16; cases zc16)
    · refine zr_iload_n hE eX12_row_19 rfl ?_
      refine zr_bipush hE eX12_row_20 (v := 100) (by decide) ?_
      refine zr_kicmp_le hE eX12_row_22 (tgt := 27) (by decide) (fun zc22 zd22 => ?_) (fun zc22 zd22 => ?_)
      · refine zr_iload_n hE eX12_row_27 rfl ?_
        refine zr_kif_ge hE eX12_row_28 (tgt := 34) (by decide) (fun zc28 zd28 => ?_) (fun zc28 zd28 => ?_)
        · have xq := hQ3 ⟨zc4, zc16, zd22⟩ zc28
          obtain ⟨dn, hdn, rfl⟩ := fIs7 zc4
          have xe1 : (nI dn).toNatClampNeg = dn := nI_clamp (by omega)
          have xq := xq dn hdn rfl
          refine zr_aload_n hE eX12_row_34 rfl ?_
          refine zr_getR hE eX12_row_35 fX12_19 zs57 rfl ?_
          refine zr_iload_n hE eX12_row_38 rfl ?_
          refine zr_iconst hE eX12_row_39 (v := 2) (by decide) ?_
          refine zr_iast hE eX12_row_40 zs61 (vpn hdn (by decide)) ?_
          rw [xe1]
          refine zr_aload_n hE eX12_row_41 rfl ?_
          refine zr_getR hE eX12_row_42 fX12_22 zs57 rfl ?_
          refine zr_iload_n hE eX12_row_45 rfl ?_
          refine zr_iload_n hE eX12_row_46 rfl ?_
          refine zr_iast hE eX12_row_47 zs62 (vpn hdn (by decide)) ?_
          rw [xe1]
          refine zr_aload_n hE eX12_row_48 rfl ?_
          refine zr_getR hE eX12_row_49 fX12_25 zs57 rfl ?_
          refine zr_iload_n hE eX12_row_52 rfl ?_
          refine zr_iload_n hE eX12_row_53 rfl ?_
          refine zr_iast hE eX12_row_54 zs63 (vpn hdn (by decide)) ?_
          rw [xe1]
          refine zr_iconst hE eX12_row_55 (v := 0) (by decide) ?_
          refine zr_istore hE eX12_row_56 (by decide) rfl ?_
          refine ro_lp (w := mroW w dn so n) hR hdn (fun u hu1 hu2 => xq u hu1 (fun j => ?_)) 100 0 _ (Nat.zero_le _) rfl (fun p _ => rfl) (fun j => ?_)
          · rw [hu2 j]; unfold mroW; rw [wu_ne (by decide), wu_ne (by decide), wu_ne (by decide)]
          · rw [if_neg (by omega)]; rfl
        · refine zr_bipush hE eX12_row_31 (v := -14) (by decide) ?_
          refine hR.2.1 _ _ _ _ _ _ eX12_row_33 rfl rfl ?_
          exact hQ2 ⟨zc4, zc16, zd22⟩ zc28
      · refine zr_iconst hE eX12_row_25 (v := -1) (by decide) ?_
        refine hR.2.1 _ _ _ _ _ _ eX12_row_26 rfl rfl ?_
        exact hQ1 (fun q => absurd q.2.2 (Int32.not_le.mpr zc22))

theorem nI_subN {a b : Nat} (h : b ≤ a) : nI a - nI b = nI (a - b) := by
  have e1 := nI_add (a - b) b
  rw [show a - b + b = a by omega] at e1
  rw [← e1, Int32.add_sub_cancel]
theorem sub_le {z i n : Nat} (hz : z ≤ 100) (hi : i < 2 ^ 31) (hn : n < 2 ^ 31) : nI n ≤ nI z - nI i ↔ i + n ≤ z := by
  have e : (nI z - nI i).toInt = (z : Int) - i := by
    rw [Int32.toInt_sub, nI_toInt (by omega), nI_toInt hi]
    exact Int.bmod_eq_of_le (by simp only [Nat.reducePow] at *; omega) (by simp only [Nat.reducePow] at *; omega)
  rw [Int32.le_iff_toInt_le, e, nI_toInt hn]
  omega
theorem nI_ge0 {x : Int32} (h : 0 ≤ x) : ∃ n, n < 2 ^ 31 ∧ x = nI n := nI_of (fun q => absurd (Int32.lt_of_le_of_lt h q) (by decide))
def Cpd (w : ww) (S D n i j k : Nat) (u : ww) : Prop := (∀ p, p ≠ 64 → u p = w p) ∧ ∀ x, u 64 x = if D ≤ x ∧ x < D + n ∧ ((j < i ∧ x - D < k) ∨ (¬ j < i ∧ n ≤ x - D + k)) then w 64 (x - D + S) else w 64 x
theorem Cpd.step {w : ww} {dd ee n i j k t : Nat} {u : ww} (h : Cpd w (100 * dd + i) (100 * ee + j) n i j k u) (hi : i + n ≤ 100) (hj : j + n ≤ 100) (hk : k < n) (ht : (j < i ∧ t = k) ∨ (¬ j < i ∧ t = n - 1 - k)) :
    u 64 (100 * dd + i + t) = w 64 (100 * dd + i + t) ∧ Cpd w (100 * dd + i) (100 * ee + j) n i j (k + 1) (wu u 64 (100 * ee + j + t) (w 64 (100 * dd + i + t))) := by
  refine ⟨?_, fun p hp => ?_, fun x => ?_⟩
  · rw [h.2, if_neg (by omega)]
  · rw [← h.1 p hp]; funext z; rw [wu_ne hp]
  · by_cases q : x = 100 * ee + j + t
    · rw [q, wu_eq, if_pos (by omega)]
      congr 1; omega
    · rw [wu_nj q, h.2 x]
      by_cases q2 : 100 * ee + j ≤ x ∧ x < 100 * ee + j + n ∧ ((j < i ∧ x - (100 * ee + j) < k) ∨ (¬ j < i ∧ n ≤ x - (100 * ee + j) + k))
      · rw [if_pos q2, if_pos (by omega)]
      · rw [if_neg q2, if_neg (by omega)]
def mcE (w : ww) (d i e j n : Int32) : Int32 := if fIs d 0 7 = true ∧ fIs e 0 7 = true then (if w 61 d.toNatClampNeg = 0 ∨ w 61 e.toNatClampNeg = 0 then -11 else if w 61 d.toNatClampNeg = 2 ∧ w 61 e.toNatClampNeg = 2 ∧ w 62 d.toNatClampNeg = w 62 e.toNatClampNeg then (if 0 ≤ n ∧ 0 ≤ i ∧ 0 ≤ j ∧ n ≤ w 63 d.toNatClampNeg - i ∧ n ≤ w 63 e.toNatClampNeg - j then 0 else -13) else -12) else -1
set_option maxHeartbeats 4000000 in
theorem cp_lp {G : zG} {w : ww} {Q : Option Value → ww → Prop} {dd ee n i j : Nat} (hR : zR RX12 cX12_copy 8 3 (some .int) Q G) (hd : dd < 8) (he : ee < 8) (hi : i + n ≤ 100) (hj : j + n ≤ 100)
    (kk : ∀ u : ww, (∀ p, p ≠ 64 → u p = w p) → (∀ x, u 64 x = if 100 * ee + j ≤ x ∧ x < 100 * ee + j + n then w 64 (x - (100 * ee + j) + (100 * dd + i)) else w 64 x) → Q (some (.int (nI n))) u) :
    ∀ (m k : Nat) (u : ww), k ≤ n → n - k = m → Cpd w (100 * dd + i) (100 * ee + j) n i j k u → G 122 [some (.ref 57), some (.int (nI dd)), some (.int (nI i)), some (.int (nI ee)), some (.int (nI j)), some (.int (nI n)), some (.int (nI k)), none] [] u := by
  have hE := hR.1
  intro m
  induction m with
  | zero =>
    intro k u h1 h2 hu
    refine zr_iload hE eX12_copy_122 rfl ?_
    refine zr_iload hE eX12_copy_124 rfl ?_
    refine zr_kicmp_ge hE eX12_copy_126 (tgt := 184) (by decide) (fun zc126 zd126 => ?_) (fun zc126 zd126 => absurd zc126 (by rw [nI_ltI (by omega) (by omega)]; omega))
    refine zr_iload hE eX12_copy_184 rfl ?_
    refine hR.2.1 _ _ _ _ _ _ eX12_copy_186 rfl rfl ?_
    obtain rfl : k = n := by omega
    refine kk u hu.1 (fun x => ?_)
    rw [hu.2 x]
    by_cases q : 100 * ee + j ≤ x ∧ x < 100 * ee + j + k
    · rw [if_pos q, if_pos (by omega)]
    · rw [if_neg q, if_neg (by omega)]
  | succ m0 ih =>
    intro k u h1 h2 hu
    have main : ∀ t, t < n → ((j < i ∧ t = k) ∨ (¬ j < i ∧ t = n - 1 - k)) → G 147 [some (.ref 57), some (.int (nI dd)), some (.int (nI i)), some (.int (nI ee)), some (.int (nI j)), some (.int (nI n)), some (.int (nI k)), none] [.int (nI t)] u := by
      intro t ht htk
      have xs := hu.step hi hj (by omega) htk
      refine zr_istore hE eX12_copy_147 (by decide) rfl ?_
      refine zr_aload_n hE eX12_copy_149 rfl ?_
      refine zr_getR hE eX12_copy_150 fX12_28 zs57 rfl ?_
      refine zr_bipush hE eX12_copy_153 (v := 100) (by decide) ?_
      refine zr_iload_n hE eX12_copy_155 rfl ?_
      refine zr_imul hE eX12_copy_156 ?_
      refine zr_iload hE eX12_copy_157 rfl ?_
      refine zr_iadd hE eX12_copy_159 ?_
      refine zr_iload hE eX12_copy_160 rfl ?_
      refine zr_iadd hE eX12_copy_162 ?_
      show G _ _ (.int ((100 : Int32) * nI ee + nI j + nI t) :: _) _
      rw [eix, nI_add]
      refine zr_aload_n hE eX12_copy_163 rfl ?_
      refine zr_getR hE eX12_copy_164 fX12_28 zs57 rfl ?_
      refine zr_bipush hE eX12_copy_167 (v := 100) (by decide) ?_
      refine zr_iload_n hE eX12_copy_169 rfl ?_
      refine zr_imul hE eX12_copy_170 ?_
      refine zr_iload_n hE eX12_copy_171 rfl ?_
      refine zr_iadd hE eX12_copy_172 ?_
      refine zr_iload hE eX12_copy_173 rfl ?_
      refine zr_iadd hE eX12_copy_175 ?_
      show G _ _ (.int ((100 : Int32) * nI dd + nI i + nI t) :: _) _
      rw [eix, nI_add]
      refine zr_ialdv hE eX12_copy_176 zs64 (vpn (show 100 * dd + i + t < 800 by omega) (by decide)) ((congrArg (u 64) (nI_clamp (by omega))).trans xs.1) ?_
      refine zr_iast hE eX12_copy_177 zs64 (vpn (show 100 * ee + j + t < 800 by omega) (by decide)) ?_
      refine zr_iincN hE eX12_copy_178 rfl (by decide) rfl ?_
      refine zr_goto hE eX12_copy_181 (tgt := 122) (by decide) ?_
      rw [nI_clamp (by omega)]
      refine zr_mask hE [true, true, true, true, true, true, true, false] ?_
      exact ih (k + 1) _ (by omega) (by omega) xs.2
    refine zr_iload hE eX12_copy_122 rfl ?_
    refine zr_iload hE eX12_copy_124 rfl ?_
    refine zr_kicmp_ge hE eX12_copy_126 (tgt := 184) (by decide) (fun zc126 zd126 => absurd ((nI_ltI (by omega) (by omega)).mpr (by omega)) zc126) (fun zc126 zd126 => ?_)
    refine zr_iload_n hE eX12_copy_129 rfl ?_
    refine zr_iload hE eX12_copy_130 rfl ?_
    refine zr_kicmp_le hE eX12_copy_132 (tgt := 140) (by decide) (fun zc132 zd132 => ?_) (fun zc132 zd132 => ?_)
    · refine zr_iload hE eX12_copy_140 rfl ?_
      refine zr_iconst hE eX12_copy_142 (v := 1) (by decide) ?_
      refine zr_isub hE eX12_copy_143 ?_
      refine zr_iload hE eX12_copy_144 rfl ?_
      refine zr_isub hE eX12_copy_146 ?_
      show G _ _ (.int (nI n - nI 1 - nI k) :: _) _
      rw [nI_subN (show 1 ≤ n by omega), nI_subN (by omega)]
      exact main (n - 1 - k) (by omega) (Or.inr ⟨by have := (nI_leI (by omega) (by omega)).mp zd132; omega, rfl⟩)
    · refine zr_iload hE eX12_copy_135 rfl ?_
      refine zr_goto hE eX12_copy_137 (tgt := 147) (by decide) ?_
      exact main k (by omega) (Or.inl ⟨(nI_ltI (by omega) (by omega)).mp zc132, rfl⟩)
set_option maxHeartbeats 4000000 in
theorem c_X12_copy {d i e j n : Int32} {w : ww} {Q : Option Value → ww → Prop} (hZ : Msz w) (hQ1 : ¬ mcE w d i e j n = 0 → Q (some (.int (mcE w d i e j n))) w) (hQ2 : mcE w d i e j n = 0 → ∀ dd i2 ee j2 n2, d = nI dd → i = nI i2 → e = nI ee → j = nI j2 → n = nI n2 → dd < 8 → ee < 8 → i2 + n2 ≤ 100 → j2 + n2 ≤ 100 → ∀ u : ww, (∀ p, p ≠ 64 → u p = w p) → (∀ x, u 64 x = if 100 * ee + j2 ≤ x ∧ x < 100 * ee + j2 + n2 then w 64 (x - (100 * ee + j2) + (100 * dd + i2)) else w 64 x) → Q (some (.int n)) u) : Ct mX12_copy 3 [.ref 57, .int d, .int i, .int e, .int j, .int n] w Q := by
  refine Ct.of (by decide) (Nat.le_of_ble_eq_true rfl) (fun _ => Nat.le_of_ble_eq_true rfl) (fun G hR => ?_)
  have hE := hR.1
  refine zr_iload_n hE eX12_copy_0 rfl ?_
  refine zr_callS1 hE eX12_copy_1 lX12_129 (by decide) (Nat.le_of_ble_eq_true rfl) (c_X12_isShelf ?_)
  refine zr_beq hE eX12_copy_4 (tgt := 14) (by decide) (fun zc4 => ?_) (fun zc4 => ?_)
  · refine zr_iconst hE eX12_copy_14 (v := -1) (by decide) ?_
    refine hR.2.1 _ _ _ _ _ _ eX12_copy_15 rfl rfl ?_
    have x : mcE w d i e j n = -1 := by unfold mcE; rw [if_neg (fun q => by rw [zc4] at q; cases q.1)]
    rw [x] at hQ1
    exact hQ1 (by decide)
  · refine zr_iload_n hE eX12_copy_7 rfl ?_
    refine zr_callS1 hE eX12_copy_8 lX12_129 (by decide) (Nat.le_of_ble_eq_true rfl) (c_X12_isShelf ?_)
    refine zr_bne hE eX12_copy_11 (tgt := 16) (by decide) (fun zc11 => ?_) (fun zc11 => ?_)
    · refine zr_aload_n hE eX12_copy_16 rfl ?_
      refine zr_getR hE eX12_copy_17 fX12_19 zs57 rfl ?_
      refine zr_iload_n hE eX12_copy_20 rfl ?_
      refine zr_iald hE eX12_copy_21 zs61 (fIs_vp zc4) ?_
      refine zr_if_eq hE eX12_copy_22 (tgt := 34) (by decide) (fun zc22 => ?_) (fun zc22 => ?_)
      · refine zr_bipush hE eX12_copy_34 (v := -11) (by decide) ?_
        refine hR.2.1 _ _ _ _ _ _ eX12_copy_36 rfl rfl ?_
        have x : mcE w d i e j n = -11 := by unfold mcE; rw [if_pos ⟨zc4, zc11⟩, if_pos (Or.inl zc22)]
        rw [x] at hQ1
        exact hQ1 (by decide)
      · refine zr_aload_n hE eX12_copy_25 rfl ?_
        refine zr_getR hE eX12_copy_26 fX12_19 zs57 rfl ?_
        refine zr_iload_n hE eX12_copy_29 rfl ?_
        refine zr_iald hE eX12_copy_30 zs61 (fIs_vp zc11) ?_
        refine zr_if_ne hE eX12_copy_31 (tgt := 37) (by decide) (fun zc31 => ?_) (fun zc31 => ?_)
        · refine zr_aload_n hE eX12_copy_37 rfl ?_
          refine zr_getR hE eX12_copy_38 fX12_19 zs57 rfl ?_
          refine zr_iload_n hE eX12_copy_41 rfl ?_
          refine zr_iald hE eX12_copy_42 zs61 (fIs_vp zc4) ?_
          refine zr_iconst hE eX12_copy_43 (v := 2) (by decide) ?_
          refine zr_icmp_ne hE eX12_copy_44 (tgt := 72) (by decide) (fun zc44 => ?_) (fun zc44 => ?_)
          · refine zr_bipush hE eX12_copy_72 (v := -12) (by decide) ?_
            refine hR.2.1 _ _ _ _ _ _ eX12_copy_74 rfl rfl ?_
            have x : mcE w d i e j n = -12 := by unfold mcE; rw [if_pos ⟨zc4, zc11⟩, if_neg (fun q => q.elim zc22 zc31), if_neg (fun q => zc44 q.1)]
            rw [x] at hQ1
            exact hQ1 (by decide)
          · refine zr_aload_n hE eX12_copy_47 rfl ?_
            refine zr_getR hE eX12_copy_48 fX12_19 zs57 rfl ?_
            refine zr_iload_n hE eX12_copy_51 rfl ?_
            refine zr_iald hE eX12_copy_52 zs61 (fIs_vp zc11) ?_
            refine zr_iconst hE eX12_copy_53 (v := 2) (by decide) ?_
            refine zr_icmp_ne hE eX12_copy_54 (tgt := 72) (by decide) (fun zc54 => ?_) (fun zc54 => ?_)
            · refine zr_bipush hE eX12_copy_72 (v := -12) (by decide) ?_
              refine hR.2.1 _ _ _ _ _ _ eX12_copy_74 rfl rfl ?_
              have x : mcE w d i e j n = -12 := by unfold mcE; rw [if_pos ⟨zc4, zc11⟩, if_neg (fun q => q.elim zc22 zc31), if_neg (fun q => zc54 q.2.1)]
              rw [x] at hQ1
              exact hQ1 (by decide)
            · refine zr_aload_n hE eX12_copy_57 rfl ?_
              refine zr_getR hE eX12_copy_58 fX12_22 zs57 rfl ?_
              refine zr_iload_n hE eX12_copy_61 rfl ?_
              refine zr_iald hE eX12_copy_62 zs62 (fIs_vp zc4) ?_
              refine zr_aload_n hE eX12_copy_63 rfl ?_
              refine zr_getR hE eX12_copy_64 fX12_22 zs57 rfl ?_
              refine zr_iload_n hE eX12_copy_67 rfl ?_
              refine zr_iald hE eX12_copy_68 zs62 (fIs_vp zc11) ?_
              refine zr_icmp_eq hE eX12_copy_69 (tgt := 75) (by decide) (fun zc69 => ?_) (fun zc69 => ?_)
              · refine zr_iload hE eX12_copy_75 rfl ?_
                refine zr_kif_lt hE eX12_copy_77 (tgt := 116) (by decide) (fun zc77 zd77 => ?_) (fun zc77 zd77 => ?_)
                · refine zr_bipush hE eX12_copy_116 (v := -13) (by decide) ?_
                  refine hR.2.1 _ _ _ _ _ _ eX12_copy_118 rfl rfl ?_
                  have x : mcE w d i e j n = -13 := by unfold mcE; rw [if_pos ⟨zc4, zc11⟩, if_neg (fun q => q.elim zc22 zc31), if_pos ⟨zc44, zc54, zc69⟩, if_neg (fun q => zc77 q.1)]
                  rw [x] at hQ1
                  exact hQ1 (by decide)
                · refine zr_iload_n hE eX12_copy_80 rfl ?_
                  refine zr_kif_lt hE eX12_copy_81 (tgt := 116) (by decide) (fun zc81 zd81 => ?_) (fun zc81 zd81 => ?_)
                  · refine zr_bipush hE eX12_copy_116 (v := -13) (by decide) ?_
                    refine hR.2.1 _ _ _ _ _ _ eX12_copy_118 rfl rfl ?_
                    have x : mcE w d i e j n = -13 := by unfold mcE; rw [if_pos ⟨zc4, zc11⟩, if_neg (fun q => q.elim zc22 zc31), if_pos ⟨zc44, zc54, zc69⟩, if_neg (fun q => zc81 q.2.1)]
                    rw [x] at hQ1
                    exact hQ1 (by decide)
                  · refine zr_iload hE eX12_copy_84 rfl ?_
                    refine zr_kif_lt hE eX12_copy_86 (tgt := 116) (by decide) (fun zc86 zd86 => ?_) (fun zc86 zd86 => ?_)
                    · refine zr_bipush hE eX12_copy_116 (v := -13) (by decide) ?_
                      refine hR.2.1 _ _ _ _ _ _ eX12_copy_118 rfl rfl ?_
                      have x : mcE w d i e j n = -13 := by unfold mcE; rw [if_pos ⟨zc4, zc11⟩, if_neg (fun q => q.elim zc22 zc31), if_pos ⟨zc44, zc54, zc69⟩, if_neg (fun q => zc86 q.2.2.1)]
                      rw [x] at hQ1
                      exact hQ1 (by decide)
                    · refine zr_iload hE eX12_copy_89 rfl ?_
                      refine zr_aload_n hE eX12_copy_91 rfl ?_
                      refine zr_getR hE eX12_copy_92 fX12_25 zs57 rfl ?_
                      refine zr_iload_n hE eX12_copy_95 rfl ?_
                      refine zr_iald hE eX12_copy_96 zs63 (fIs_vp zc4) ?_
                      refine zr_iload_n hE eX12_copy_97 rfl ?_
                      refine zr_isub hE eX12_copy_98 ?_
                      refine zr_kicmp_gt hE eX12_copy_99 (tgt := 116) (by decide) (fun zc99 zd99 => ?_) (fun zc99 zd99 => ?_)
                      · refine zr_bipush hE eX12_copy_116 (v := -13) (by decide) ?_
                        refine hR.2.1 _ _ _ _ _ _ eX12_copy_118 rfl rfl ?_
                        have x : mcE w d i e j n = -13 := by unfold mcE; rw [if_pos ⟨zc4, zc11⟩, if_neg (fun q => q.elim zc22 zc31), if_pos ⟨zc44, zc54, zc69⟩, if_neg (fun q => zc99 q.2.2.2.1)]
                        rw [x] at hQ1
                        exact hQ1 (by decide)
                      · refine zr_iload hE eX12_copy_102 rfl ?_
                        refine zr_aload_n hE eX12_copy_104 rfl ?_
                        refine zr_getR hE eX12_copy_105 fX12_25 zs57 rfl ?_
                        refine zr_iload_n hE eX12_copy_108 rfl ?_
                        refine zr_iald hE eX12_copy_109 zs63 (fIs_vp zc11) ?_
                        refine zr_iload hE eX12_copy_110 rfl ?_
                        refine zr_isub hE eX12_copy_112 ?_
                        refine zr_kicmp_le hE eX12_copy_113 (tgt := 119) (by decide) (fun zc113 zd113 => ?_) (fun zc113 zd113 => ?_)
                        · have x0 : mcE w d i e j n = 0 := by unfold mcE; rw [if_pos ⟨zc4, zc11⟩, if_neg (fun q => q.elim zc22 zc31), if_pos ⟨zc44, zc54, zc69⟩, if_pos ⟨zc77, zc81, zc86, zc99, zd113⟩]
                          have hQ2 := hQ2 x0
                          obtain ⟨dd, hdd, rfl⟩ := fIs7 zc4
                          obtain ⟨ee, hee, rfl⟩ := fIs7 zc11
                          obtain ⟨n, hn, rfl⟩ := nI_ge0 zc77
                          obtain ⟨i, hi, rfl⟩ := nI_ge0 zc81
                          obtain ⟨j, hj, rfl⟩ := nI_ge0 zc86
                          obtain ⟨z1, hz1, hz1e⟩ := hZ dd hdd
                          obtain ⟨z2, hz2, hz2e⟩ := hZ ee hee
                          rw [nI_clamp (by omega), hz1e, sub_le hz1 hi hn] at zc99
                          rw [nI_clamp (by omega), hz2e, sub_le hz2 hj hn] at zd113
                          have hQ2 := hQ2 dd i ee j n rfl rfl rfl rfl rfl hdd hee (by omega) (by omega)
                          refine zr_iconst hE eX12_copy_119 (v := 0) (by decide) ?_
                          refine zr_istore hE eX12_copy_120 (by decide) rfl ?_
                          refine cp_lp hR hdd hee (by omega) (by omega) hQ2 n 0 w (Nat.zero_le _) rfl ⟨fun p _ => rfl, fun x => ?_⟩
                          rw [if_neg (by omega)]
                        · refine zr_bipush hE eX12_copy_116 (v := -13) (by decide) ?_
                          refine hR.2.1 _ _ _ _ _ _ eX12_copy_118 rfl rfl ?_
                          have x : mcE w d i e j n = -13 := by unfold mcE; rw [if_pos ⟨zc4, zc11⟩, if_neg (fun q => q.elim zc22 zc31), if_pos ⟨zc44, zc54, zc69⟩, if_neg (fun q => zd113 q.2.2.2.2)]
                          rw [x] at hQ1
                          exact hQ1 (by decide)
              · refine zr_bipush hE eX12_copy_72 (v := -12) (by decide) ?_
                refine hR.2.1 _ _ _ _ _ _ eX12_copy_74 rfl rfl ?_
                have x : mcE w d i e j n = -12 := by unfold mcE; rw [if_pos ⟨zc4, zc11⟩, if_neg (fun q => q.elim zc22 zc31), if_neg (fun q => zc69 q.2.2)]
                rw [x] at hQ1
                exact hQ1 (by decide)
        · refine zr_bipush hE eX12_copy_34 (v := -11) (by decide) ?_
          refine hR.2.1 _ _ _ _ _ _ eX12_copy_36 rfl rfl ?_
          have x : mcE w d i e j n = -11 := by unfold mcE; rw [if_pos ⟨zc4, zc11⟩, if_pos (Or.inr zc31)]
          rw [x] at hQ1
          exact hQ1 (by decide)
    · refine zr_iconst hE eX12_copy_14 (v := -1) (by decide) ?_
      refine hR.2.1 _ _ _ _ _ _ eX12_copy_15 rfl rfl ?_
      have x : mcE w d i e j n = -1 := by unfold mcE; rw [if_neg (fun q => by rw [zc11] at q; cases q.2)]
      rw [x] at hQ1
      exact hQ1 (by decide)

