/-! The reference: longestRow, helps. -/
def lrB (lz : Nat → Nat → Bool) (a : Nat) : Nat → (Nat → Int32) → Nat → Int32
  | 0, f => f
  | n + 1, f => if a ≠ n ∧ lrB lz a n f n ≤ lrB lz a n f a ∧ lz a n = true then upd (lrB lz a n f) n (lrB lz a n f a + 1) else lrB lz a n f
def lrA (lz : Nat → Nat → Bool) (m : Nat) : Nat → (Nat → Int32) → Nat → Int32
  | 0, f => f
  | n + 1, f => lrB lz n m (lrA lz m n f)
def lrR (lz : Nat → Nat → Bool) (m : Nat) : Nat → (Nat → Int32) → Nat → Int32
  | 0, f => f
  | n + 1, f => lrA lz m m (lrR lz m n f)
def lrX (f : Nat → Int32) : Nat → Int32
  | 0 => 0
  | n + 1 => if lrX f n < f n then f n else lrX f n
def lrM (lz : Nat → Nat → Bool) (m : Nat) : Int32 := lrX (lrR lz m m (fun _ => 1)) m
/-- a world that differs in the rows' object alone, whose first ones are so -/
def Rw (w : ww) (m : Nat) (f : Nat → Int32) (u : ww) : Prop := (∀ p, p ≠ 70 → u p = w p) ∧ ∀ i, i < m → u 70 i = f i
theorem Rw.put {w : ww} {m : Nat} {f : Nat → Int32} {u : ww} (h : Rw w m f u) (n : Nat) (v : Int32) : Rw w m (upd f n v) (wu u 70 n v) := by
  refine ⟨fun p hp => ?_, fun i hi => ?_⟩
  · rw [← h.1 p hp]; funext z; rw [wu_ne hp]
  · unfold upd
    by_cases q : i = n
    · rw [if_pos q, q, wu_eq]
    · rw [if_neg q, wu_nj q]; exact h.2 i hi
set_option maxHeartbeats 4000000 in
theorem lr_b {G : zG} {w : ww} {Q : Option Value → ww → Prop} {m : Nat} (hR : zR RX12 cX12_longestRow 6 7 (some .int) Q G) (hm : m ≤ 10) (hk : ∀ b, b < m → vp_in (mB w 0 b) 8) {r : Int32} {rd a : Nat} (ha : a < m) {f : Nat → Int32}
    (kk : ∀ u, Rw w m (lrB (fun a b => fLi (mB w) a b (w 58 1)) a m f) u → G 104 [some (.ref 57), some (.int (nI m)), some (.int r), some (.int (nI rd)), some (.int (nI a)), some (.int (nI m))] [] u) :
    ∀ (k b : Nat) (u : ww), b ≤ m → m - b = k → Rw w m (lrB (fun a b => fLi (mB w) a b (w 58 1)) a b f) u → G 41 [some (.ref 57), some (.int (nI m)), some (.int r), some (.int (nI rd)), some (.int (nI a)), some (.int (nI b))] [] u := by
  have hE := hR.1
  intro k
  induction k with
  | zero =>
    intro b u h1 h2 hu
    refine zr_iload hE eX12_longestRow_41 rfl ?_
    refine zr_iload_n hE eX12_longestRow_43 rfl ?_
    refine zr_kicmp_ge hE eX12_longestRow_44 (tgt := 104) (by decide) (fun zc44 zd44 => ?_) (fun zc44 zd44 => absurd zc44 (by rw [nI_ltI (by omega) (by omega)]; omega))
    obtain rfl : b = m := by omega
    exact kk u hu
  | succ k ih =>
    intro b u h1 h2 hu
    have hb : b < m := by omega
    have xmB : mB u = mB w := by funext k b; unfold mB; rw [hu.1 58 (by decide)]
    refine zr_iload hE eX12_longestRow_41 rfl ?_
    refine zr_iload_n hE eX12_longestRow_43 rfl ?_
    refine zr_kicmp_ge hE eX12_longestRow_44 (tgt := 104) (by decide) (fun zc44 zd44 => absurd ((nI_ltI (by omega) (by omega)).mpr (by omega)) zc44) (fun zc44 zd44 => ?_)
    refine zr_iload hE eX12_longestRow_47 rfl ?_
    refine zr_iload hE eX12_longestRow_49 rfl ?_
    refine zr_icmp_eq hE eX12_longestRow_51 (tgt := 98) (by decide) (fun zc51 => ?_) (fun zc51 => ?_)
    · skip
      refine zr_iincN hE eX12_longestRow_98 rfl (by decide) rfl ?_
      refine zr_goto hE eX12_longestRow_101 (tgt := 41) (by decide) ?_
      exact ih (b + 1) _ (by omega) (by omega) (by rw [lrB, if_neg (fun q => q.1 ((nI_eqI (by omega) (by omega)).mp zc51))]; exact hu)
    · refine zr_aload_n hE eX12_longestRow_54 rfl ?_
      refine zr_getR hE eX12_longestRow_55 fX12_46 zs57 rfl ?_
      refine zr_iload hE eX12_longestRow_58 rfl ?_
      refine zr_ialdv hE eX12_longestRow_60 zs70 (vpn (show a < 10 by omega) (by decide)) ((congrArg (u 70) (nI_clamp (by omega))).trans (hu.2 a ha)) ?_
      refine zr_aload_n hE eX12_longestRow_61 rfl ?_
      refine zr_getR hE eX12_longestRow_62 fX12_46 zs57 rfl ?_
      refine zr_iload hE eX12_longestRow_65 rfl ?_
      refine zr_ialdv hE eX12_longestRow_67 zs70 (vpn (show b < 10 by omega) (by decide)) ((congrArg (u 70) (nI_clamp (by omega))).trans (hu.2 b hb)) ?_
      refine zr_kicmp_lt hE eX12_longestRow_68 (tgt := 98) (by decide) (fun zc68 zd68 => ?_) (fun zc68 zd68 => ?_)
      · skip
        refine zr_iincN hE eX12_longestRow_98 rfl (by decide) rfl ?_
        refine zr_goto hE eX12_longestRow_101 (tgt := 41) (by decide) ?_
        exact ih (b + 1) _ (by omega) (by omega) (by rw [lrB, if_neg (fun q => zc68 q.2.1)]; exact hu)
      · refine zr_aload_n hE eX12_longestRow_71 rfl ?_
        refine zr_iload hE eX12_longestRow_72 rfl ?_
        refine zr_iload hE eX12_longestRow_74 rfl ?_
        refine zr_callV2 hE eX12_longestRow_76 lX12_162 zs57 rfl rfl (by decide) (Nat.le_of_ble_eq_true rfl) (c_X12_liesNow (vpn (show a < 10 by omega) (by decide)) (vpn (show b < 10 by omega) (by decide)) (by rw [nI_clamp (by omega), xmB]; exact hk a ha) (by rw [nI_clamp (by omega), xmB]; exact hk b hb) ?_)
        refine zr_beq hE eX12_longestRow_79 (tgt := 98) (by decide) (fun zc79 => ?_) (fun zc79 => ?_)
        · skip
          refine zr_iincN hE eX12_longestRow_98 rfl (by decide) rfl ?_
          refine zr_goto hE eX12_longestRow_101 (tgt := 41) (by decide) ?_
          rw [nI_clamp (by omega), nI_clamp (by omega), xmB, hu.1 58 (by decide)] at zc79
          exact ih (b + 1) _ (by omega) (by omega) (by rw [lrB, if_neg (fun q => by have := q.2.2; rw [zc79] at this; cases this)]; exact hu)
        · refine zr_aload_n hE eX12_longestRow_82 rfl ?_
          refine zr_getR hE eX12_longestRow_83 fX12_46 zs57 rfl ?_
          refine zr_iload hE eX12_longestRow_86 rfl ?_
          refine zr_aload_n hE eX12_longestRow_88 rfl ?_
          refine zr_getR hE eX12_longestRow_89 fX12_46 zs57 rfl ?_
          refine zr_iload hE eX12_longestRow_92 rfl ?_
          refine zr_ialdv hE eX12_longestRow_94 zs70 (vpn (show a < 10 by omega) (by decide)) ((congrArg (u 70) (nI_clamp (by omega))).trans (hu.2 a ha)) ?_
          refine zr_iconst hE eX12_longestRow_95 (v := 1) (by decide) ?_
          refine zr_iadd hE eX12_longestRow_96 ?_
          refine zr_iast hE eX12_longestRow_97 zs70 (vpn (show b < 10 by omega) (by decide)) ?_
          skip
          refine zr_iincN hE eX12_longestRow_98 rfl (by decide) rfl ?_
          refine zr_goto hE eX12_longestRow_101 (tgt := 41) (by decide) ?_
          rw [nI_clamp (by omega), nI_clamp (by omega), xmB, hu.1 58 (by decide)] at zc79
          rw [nI_clamp (by omega)]
          exact ih (b + 1) _ (by omega) (by omega) (by rw [lrB, if_pos ⟨fun q => zc51 (by rw [q]), zc68, zc79⟩]; exact hu.put b _)
set_option maxHeartbeats 4000000 in
theorem lr_a {G : zG} {w : ww} {Q : Option Value → ww → Prop} {m : Nat} (hR : zR RX12 cX12_longestRow 6 7 (some .int) Q G) (hm : m ≤ 10) (hk : ∀ b, b < m → vp_in (mB w 0 b) 8) {r : Int32} {rd : Nat} {f : Nat → Int32}
    (kk : ∀ u, Rw w m (lrA (fun a b => fLi (mB w) a b (w 58 1)) m m f) u → G 110 [some (.ref 57), some (.int (nI m)), some (.int r), some (.int (nI rd)), some (.int (nI m)), none] [] u) :
    ∀ (k a : Nat) (u : ww), a ≤ m → m - a = k → Rw w m (lrA (fun a b => fLi (mB w) a b (w 58 1)) m a f) u → G 32 [some (.ref 57), some (.int (nI m)), some (.int r), some (.int (nI rd)), some (.int (nI a)), none] [] u := by
  have hE := hR.1
  intro k
  induction k with
  | zero =>
    intro a u h1 h2 hu
    refine zr_iload hE eX12_longestRow_32 rfl ?_
    refine zr_iload_n hE eX12_longestRow_34 rfl ?_
    refine zr_kicmp_ge hE eX12_longestRow_35 (tgt := 110) (by decide) (fun zc35 zd35 => ?_) (fun zc35 zd35 => absurd zc35 (by rw [nI_ltI (by omega) (by omega)]; omega))
    obtain rfl : a = m := by omega
    exact kk u hu
  | succ k ih =>
    intro a u h1 h2 hu
    have ha : a < m := by omega
    refine zr_iload hE eX12_longestRow_32 rfl ?_
    refine zr_iload_n hE eX12_longestRow_34 rfl ?_
    refine zr_kicmp_ge hE eX12_longestRow_35 (tgt := 110) (by decide) (fun zc35 zd35 => absurd ((nI_ltI (by omega) (by omega)).mpr (by omega)) zc35) (fun zc35 zd35 => ?_)
    refine zr_iconst hE eX12_longestRow_38 (v := 0) (by decide) ?_
    refine zr_istore hE eX12_longestRow_39 (by decide) rfl ?_
    refine lr_b hR hm hk ha (f := lrA (fun a b => fLi (mB w) a b (w 58 1)) m a f) (fun u2 hu2 => ?_) m 0 _ (Nat.zero_le _) rfl hu
    refine zr_iincN hE eX12_longestRow_104 rfl (by decide) rfl ?_
    refine zr_goto hE eX12_longestRow_107 (tgt := 32) (by decide) ?_
    refine zr_mask hE [true, true, true, true, true, false] ?_
    exact ih (a + 1) _ (by omega) (by omega) (by rw [lrA]; exact hu2)
set_option maxHeartbeats 4000000 in
theorem lr_r {G : zG} {w : ww} {Q : Option Value → ww → Prop} {m : Nat} (hR : zR RX12 cX12_longestRow 6 7 (some .int) Q G) (hm : m ≤ 10) (hk : ∀ b, b < m → vp_in (mB w 0 b) 8) {r : Int32}
    (kk : ∀ u, Rw w m (lrR (fun a b => fLi (mB w) a b (w 58 1)) m m (fun _ => 1)) u → G 116 [some (.ref 57), some (.int (nI m)), some (.int r), some (.int (nI m)), none, none] [] u) :
    ∀ (k rd : Nat) (u : ww), rd ≤ m → m - rd = k → Rw w m (lrR (fun a b => fLi (mB w) a b (w 58 1)) m rd (fun _ => 1)) u → G 24 [some (.ref 57), some (.int (nI m)), some (.int r), some (.int (nI rd)), none, none] [] u := by
  have hE := hR.1
  intro k
  induction k with
  | zero =>
    intro rd u h1 h2 hu
    refine zr_iload_n hE eX12_longestRow_24 rfl ?_
    refine zr_iload_n hE eX12_longestRow_25 rfl ?_
    refine zr_kicmp_ge hE eX12_longestRow_26 (tgt := 116) (by decide) (fun zc26 zd26 => ?_) (fun zc26 zd26 => absurd zc26 (by rw [nI_ltI (by omega) (by omega)]; omega))
    obtain rfl : rd = m := by omega
    exact kk u hu
  | succ k ih =>
    intro rd u h1 h2 hu
    refine zr_iload_n hE eX12_longestRow_24 rfl ?_
    refine zr_iload_n hE eX12_longestRow_25 rfl ?_
    refine zr_kicmp_ge hE eX12_longestRow_26 (tgt := 116) (by decide) (fun zc26 zd26 => absurd ((nI_ltI (by omega) (by omega)).mpr (by omega)) zc26) (fun zc26 zd26 => ?_)
    refine zr_iconst hE eX12_longestRow_29 (v := 0) (by decide) ?_
    refine zr_istore hE eX12_longestRow_30 (by decide) rfl ?_
    refine lr_a hR hm hk (f := lrR (fun a b => fLi (mB w) a b (w 58 1)) m rd (fun _ => 1)) (fun u2 hu2 => ?_) m 0 _ (Nat.zero_le _) rfl hu
    refine zr_iincN hE eX12_longestRow_110 rfl (by decide) rfl ?_
    refine zr_goto hE eX12_longestRow_113 (tgt := 24) (by decide) ?_
    refine zr_mask hE [true, true, true, true, false, false] ?_
    exact ih (rd + 1) _ (by omega) (by omega) (by rw [lrR]; exact hu2)
set_option maxHeartbeats 4000000 in
theorem lr_1 {G : zG} {w : ww} {Q : Option Value → ww → Prop} {m : Nat} (hR : zR RX12 cX12_longestRow 6 7 (some .int) Q G) (hm : m ≤ 10) (hk : ∀ b, b < m → vp_in (mB w 0 b) 8) {r : Int32}
    (kk : ∀ u, Rw w m (fun _ => 1) u → G 24 [some (.ref 57), some (.int (nI m)), some (.int r), some (.int (nI 0)), none, none] [] u) :
    ∀ (k b : Nat) (u : ww), b ≤ m → m - b = k → (∀ p, p ≠ 70 → u p = w p) → (∀ i, i < b → u 70 i = 1) → G 4 [some (.ref 57), some (.int (nI m)), some (.int r), some (.int (nI b)), none, none] [] u := by
  have hE := hR.1
  intro k
  induction k with
  | zero =>
    intro b u h1 h2 hu1 hu2
    obtain rfl : b = m := by omega
    refine zr_iload_n hE eX12_longestRow_4 rfl ?_
    refine zr_iload_n hE eX12_longestRow_5 rfl ?_
    refine zr_kicmp_ge hE eX12_longestRow_6 (tgt := 22) (by decide) (fun zc6 zd6 => ?_) (fun zc6 zd6 => absurd zc6 (by rw [nI_ltI (by omega) (by omega)]; omega))
    refine zr_iconst hE eX12_longestRow_22 (v := 0) (by decide) ?_
    refine zr_istore_n hE eX12_longestRow_23 (by decide) rfl ?_
    exact kk u ⟨hu1, fun i hi => hu2 i (by omega)⟩
  | succ k ih =>
    intro b u h1 h2 hu1 hu2
    refine zr_iload_n hE eX12_longestRow_4 rfl ?_
    refine zr_iload_n hE eX12_longestRow_5 rfl ?_
    refine zr_kicmp_ge hE eX12_longestRow_6 (tgt := 22) (by decide) (fun zc6 zd6 => absurd ((nI_ltI (by omega) (by omega)).mpr (by omega)) zc6) (fun zc6 zd6 => ?_)
    refine zr_aload_n hE eX12_longestRow_9 rfl ?_
    refine zr_getR hE eX12_longestRow_10 fX12_46 zs57 rfl ?_
    refine zr_iload_n hE eX12_longestRow_13 rfl ?_
    refine zr_iconst hE eX12_longestRow_14 (v := 1) (by decide) ?_
    refine zr_iast hE eX12_longestRow_15 zs70 (vpn (show b < 10 by omega) (by decide)) ?_
    refine zr_iincN hE eX12_longestRow_16 rfl (by decide) rfl ?_
    refine zr_goto hE eX12_longestRow_19 (tgt := 4) (by decide) ?_
    rw [nI_clamp (by omega)]
    refine ih (b + 1) _ (by omega) (by omega) (fun p hp => ?_) (fun i hi => ?_)
    · rw [← hu1 p hp]; funext z; rw [wu_ne hp]
    · by_cases q : i = b
      · rw [q, wu_eq]
      · rw [wu_nj q]; exact hu2 i (by omega)
set_option maxHeartbeats 4000000 in
theorem lr_x {G : zG} {w : ww} {Q : Option Value → ww → Prop} {m : Nat} (hR : zR RX12 cX12_longestRow 6 7 (some .int) Q G) (hm : m ≤ 10) (hk : ∀ b, b < m → vp_in (mB w 0 b) 8) {f : Nat → Int32} {u : ww} (hu : Rw w m f u) (hQ : Q (some (.int (lrX f m))) u) :
    ∀ (k b : Nat) (r : Int32), b ≤ m → m - b = k → r = lrX f b → G 118 [some (.ref 57), some (.int (nI m)), some (.int r), some (.int (nI b)), none, none] [] u := by
  have hE := hR.1
  intro k
  induction k with
  | zero =>
    intro b r h1 h2 hr
    refine zr_iload_n hE eX12_longestRow_118 rfl ?_
    refine zr_iload_n hE eX12_longestRow_119 rfl ?_
    refine zr_kicmp_ge hE eX12_longestRow_120 (tgt := 150) (by decide) (fun zc120 zd120 => ?_) (fun zc120 zd120 => absurd zc120 (by rw [nI_ltI (by omega) (by omega)]; omega))
    refine zr_iload_n hE eX12_longestRow_150 rfl ?_
    refine hR.2.1 _ _ _ _ _ _ eX12_longestRow_151 rfl rfl ?_
    obtain rfl : b = m := by omega
    rw [hr]
    exact hQ
  | succ k ih =>
    intro b r h1 h2 hr
    refine zr_iload_n hE eX12_longestRow_118 rfl ?_
    refine zr_iload_n hE eX12_longestRow_119 rfl ?_
    refine zr_kicmp_ge hE eX12_longestRow_120 (tgt := 150) (by decide) (fun zc120 zd120 => absurd ((nI_ltI (by omega) (by omega)).mpr (by omega)) zc120) (fun zc120 zd120 => ?_)
    refine zr_aload_n hE eX12_longestRow_123 rfl ?_
    refine zr_getR hE eX12_longestRow_124 fX12_46 zs57 rfl ?_
    refine zr_iload_n hE eX12_longestRow_127 rfl ?_
    refine zr_ialdv hE eX12_longestRow_128 zs70 (vpn (show b < 10 by omega) (by decide)) ((congrArg (u 70) (nI_clamp (by omega))).trans (hu.2 b (by omega))) ?_
    refine zr_iload_n hE eX12_longestRow_129 rfl ?_
    refine zr_kicmp_le hE eX12_longestRow_130 (tgt := 142) (by decide) (fun zc130 zd130 => ?_) (fun zc130 zd130 => ?_)
    · refine zr_iload_n hE eX12_longestRow_142 rfl ?_
      refine zr_istore_n hE eX12_longestRow_143 (by decide) rfl ?_
      refine zr_iincN hE eX12_longestRow_144 rfl (by decide) rfl ?_
      refine zr_goto hE eX12_longestRow_147 (tgt := 118) (by decide) ?_
      exact ih (b + 1) _ (by omega) (by omega) (by rw [lrX, if_neg (by rw [← hr]; exact zc130)]; exact hr)
    · refine zr_aload_n hE eX12_longestRow_133 rfl ?_
      refine zr_getR hE eX12_longestRow_134 fX12_46 zs57 rfl ?_
      refine zr_iload_n hE eX12_longestRow_137 rfl ?_
      refine zr_ialdv hE eX12_longestRow_138 zs70 (vpn (show b < 10 by omega) (by decide)) ((congrArg (u 70) (nI_clamp (by omega))).trans (hu.2 b (by omega))) ?_
      refine zr_goto hE eX12_longestRow_139 (tgt := 143) (by decide) ?_
      refine zr_istore_n hE eX12_longestRow_143 (by decide) rfl ?_
      refine zr_iincN hE eX12_longestRow_144 rfl (by decide) rfl ?_
      refine zr_goto hE eX12_longestRow_147 (tgt := 118) (by decide) ?_
      exact ih (b + 1) _ (by omega) (by omega) (by rw [lrX, if_pos (by rw [← hr]; exact zc130)])
set_option maxHeartbeats 4000000 in
theorem c_X12_longestRow {m : Nat} {w : ww} {Q : Option Value → ww → Prop} (hm : m ≤ 10) (hk : ∀ b, b < m → vp_in (mB w 0 b) 8) (hQ : ∀ u, (∀ p, p ≠ 70 → u p = w p) → Q (some (.int (lrM (fun a b => fLi (mB w) a b (w 58 1)) m))) u) : Ct mX12_longestRow 7 [.ref 57, .int (nI m)] w Q := by
  refine Ct.of (by decide) (Nat.le_of_ble_eq_true rfl) (fun _ => Nat.le_of_ble_eq_true rfl) (fun G hR => ?_)
  have hE := hR.1
  refine zr_iconst hE eX12_longestRow_0 (v := 0) (by decide) ?_
  refine zr_istore_n hE eX12_longestRow_1 (by decide) rfl ?_
  refine zr_iconst hE eX12_longestRow_2 (v := 0) (by decide) ?_
  refine zr_istore_n hE eX12_longestRow_3 (by decide) rfl ?_
  refine lr_1 hR hm hk (fun u hu => ?_) m 0 w (Nat.zero_le _) rfl (fun p hp => rfl) (fun i hi => absurd hi (by omega))
  refine lr_r hR hm hk (fun u2 hu2 => ?_) m 0 u (Nat.zero_le _) rfl hu
  refine zr_iconst hE eX12_longestRow_116 (v := 0) (by decide) ?_
  refine zr_istore_n hE eX12_longestRow_117 (by decide) rfl ?_
  exact lr_x hR hm hk hu2 (hQ u2 hu2.1) m 0 0 (Nat.zero_le _) rfl rfl

