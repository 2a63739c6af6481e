/-! The reference: count, toss, put, element. -/
def ciF (lz : Nat → Nat → Bool) (a : Nat) : Nat → Nat → Int32 → Int32
  | 0, _, s => s
  | k + 1, b, s => ciF lz a k (b + 1) (s + one (lz a b || lz b a))
def coF (lz : Nat → Nat → Bool) (c : Nat) : Nat → Nat → Int32 → Int32
  | 0, _, s => s
  | k + 1, a, s => coF lz c k (a + 1) (ciF lz a (c - (a + 1)) (a + 1) s)
def cn2 (lz : Nat → Nat → Bool) (c : Nat) : Int32 := coF lz c c 0 0
set_option maxHeartbeats 4000000 in
theorem ct_b {G : zG} {w : ww} {Q : Option Value → ww → Prop} {c a : Nat} {r : Int32} (hR : zR RX12 cX12_count 5 7 (some .int) Q G) (hM : Mow w c) (ha : a < c)
    (kk : ∀ b, c ≤ b → G 101 [some (.ref 57), some (.int 2), some (.int r), some (.int (nI a)), some (.int (nI b))] [] w) :
    ∀ (k b : Nat) (s : Int32), b + k = c → a < b → ciF (fun a b => fLi (mB w) a b (w 58 1)) a k b s = r → G 56 [some (.ref 57), some (.int 2), some (.int s), some (.int (nI a)), some (.int (nI b))] [] w := by
  have hE := hR.1
  have hc9 := hM.1
  intro k
  induction k with
  | zero =>
    intro b s h1 h2 hr
    have h1 : c ≤ b := by omega
    have hbc : b ≤ c := by omega
    refine zr_iload hE eX12_count_56 rfl ?_
    refine zr_aload_n hE eX12_count_58 rfl ?_
    refine zr_getR hE eX12_count_59 fX12_9 zs57 rfl ?_
    refine zr_iconst hE eX12_count_62 (v := 0) (by decide) ?_
    refine zr_ialdv hE eX12_count_63 zs58 (by unfold vp_in; decide) hM.2.1 ?_
    refine zr_kicmp_ge hE eX12_count_64 (tgt := 101) (by decide) (fun zc64 zd64 => ?_) (fun zc64 zd64 => absurd zc64 (by rw [nI_ltI (by omega) (by omega)]; omega))
    rw [ciF] at hr
    subst hr
    exact kk b h1
  | succ k ih =>
    intro b s h1 h2 hr
    have ih : ∀ (b : Nat) (s : Int32), b + k = c → a < b → ciF (fun a b => fLi (mB w) a b (w 58 1)) a k b s = r → G 56 [some (.ref 57), some (.int 2), some (.int s), some (.int (nI a)), some (.int (nI b))] [] w := ih
    have hb : b < c := by omega
    refine zr_iload hE eX12_count_56 rfl ?_
    refine zr_aload_n hE eX12_count_58 rfl ?_
    refine zr_getR hE eX12_count_59 fX12_9 zs57 rfl ?_
    refine zr_iconst hE eX12_count_62 (v := 0) (by decide) ?_
    refine zr_ialdv hE eX12_count_63 zs58 (by unfold vp_in; decide) hM.2.1 ?_
    refine zr_kicmp_ge hE eX12_count_64 (tgt := 101) (by decide) (fun zc64 zd64 => absurd ((nI_ltI (by omega) (by omega)).mpr (by omega)) zc64) (fun zc64 zd64 => ?_)
    refine zr_iload_n hE eX12_count_67 rfl ?_
    refine zr_aload_n hE eX12_count_68 rfl ?_
    refine zr_iload_n hE eX12_count_69 rfl ?_
    refine zr_iload hE eX12_count_70 rfl ?_
    refine zr_callV2 hE eX12_count_72 lX12_162 zs57 rfl rfl (by decide) (Nat.le_of_ble_eq_true rfl) (c_X12_liesNow (vpn (show a < 10 by omega) (by decide)) (vpn (show b < 10 by omega) (by decide)) (by rw [nI_clamp (by omega)]; exact hM.2.2 _ (by omega)) (by rw [nI_clamp (by omega)]; exact hM.2.2 _ (by omega)) ?_)
    simp only [nI_clamp (show a < 2 ^ 31 by omega), nI_clamp (show b < 2 ^ 31 by omega)]
    refine zr_bne hE eX12_count_75 (tgt := 88) (by decide) (fun zc75 => ?_) (fun zc75 => ?_)
    · refine zr_iconst hE eX12_count_88 (v := 1) (by decide) ?_
      refine zr_goto hE eX12_count_89 (tgt := 93) (by decide) ?_
      refine zr_iadd hE eX12_count_93 ?_
      refine zr_istore_n hE eX12_count_94 (by decide) rfl ?_
      refine zr_iincN hE eX12_count_95 rfl (by decide) rfl ?_
      refine zr_goto hE eX12_count_98 (tgt := 56) (by decide) ?_
      refine ih (b + 1) _ (by omega) (by omega) ?_
      rw [← hr, ciF]
      simp only [zc75, one, Bool.true_or, Bool.or_true, Bool.false_or, Bool.or_false]
    · refine zr_aload_n hE eX12_count_78 rfl ?_
      refine zr_iload hE eX12_count_79 rfl ?_
      refine zr_iload_n hE eX12_count_81 rfl ?_
      refine zr_callV2 hE eX12_count_82 lX12_162 zs57 rfl rfl (by decide) (Nat.le_of_ble_eq_true rfl) (c_X12_liesNow (vpn (show b < 10 by omega) (by decide)) (vpn (show a < 10 by omega) (by decide)) (by rw [nI_clamp (by omega)]; exact hM.2.2 _ (by omega)) (by rw [nI_clamp (by omega)]; exact hM.2.2 _ (by omega)) ?_)
      simp only [nI_clamp (show a < 2 ^ 31 by omega), nI_clamp (show b < 2 ^ 31 by omega)]
      refine zr_beq hE eX12_count_85 (tgt := 92) (by decide) (fun zc85 => ?_) (fun zc85 => ?_)
      · refine zr_iconst hE eX12_count_92 (v := 0) (by decide) ?_
        refine zr_iadd hE eX12_count_93 ?_
        refine zr_istore_n hE eX12_count_94 (by decide) rfl ?_
        refine zr_iincN hE eX12_count_95 rfl (by decide) rfl ?_
        refine zr_goto hE eX12_count_98 (tgt := 56) (by decide) ?_
        refine ih (b + 1) _ (by omega) (by omega) ?_
        rw [← hr, ciF]
        simp only [zc75, zc85, one, Bool.true_or, Bool.or_true, Bool.false_or, Bool.or_false]
      · refine zr_iconst hE eX12_count_88 (v := 1) (by decide) ?_
        refine zr_goto hE eX12_count_89 (tgt := 93) (by decide) ?_
        refine zr_iadd hE eX12_count_93 ?_
        refine zr_istore_n hE eX12_count_94 (by decide) rfl ?_
        refine zr_iincN hE eX12_count_95 rfl (by decide) rfl ?_
        refine zr_goto hE eX12_count_98 (tgt := 56) (by decide) ?_
        refine ih (b + 1) _ (by omega) (by omega) ?_
        rw [← hr, ciF]
        simp only [zc75, zc85, one, Bool.true_or, Bool.or_true, Bool.false_or, Bool.or_false]
set_option maxHeartbeats 4000000 in
theorem ct_a {G : zG} {w : ww} {Q : Option Value → ww → Prop} {c : Nat} {r : Int32} (hR : zR RX12 cX12_count 5 7 (some .int) Q G) (hM : Mow w c) (hQ : Q (some (.int r)) w) :
    ∀ (k a : Nat) (s : Int32), a + k = c → coF (fun a b => fLi (mB w) a b (w 58 1)) c k a s = r → G 41 [some (.ref 57), some (.int 2), some (.int s), some (.int (nI a)), none] [] w := by
  have hE := hR.1
  have hc9 := hM.1
  intro k
  induction k with
  | zero =>
    intro a s h1 hr
    have hac : a ≤ c := by omega
    refine zr_iload_n hE eX12_count_41 rfl ?_
    refine zr_aload_n hE eX12_count_42 rfl ?_
    refine zr_getR hE eX12_count_43 fX12_9 zs57 rfl ?_
    refine zr_iconst hE eX12_count_46 (v := 0) (by decide) ?_
    refine zr_ialdv hE eX12_count_47 zs58 (by unfold vp_in; decide) hM.2.1 ?_
    refine zr_kicmp_ge hE eX12_count_48 (tgt := 107) (by decide) (fun zc48 zd48 => ?_) (fun zc48 zd48 => absurd zc48 (by rw [nI_ltI (by omega) (by omega)]; omega))
    refine zr_iload_n hE eX12_count_107 rfl ?_
    refine hR.2.1 _ _ _ _ _ _ eX12_count_108 rfl rfl ?_
    rw [coF] at hr
    rw [← hr] at hQ
    exact hQ
  | succ k ih =>
    intro a s h1 hr
    have hac : a < c := by omega
    refine zr_iload_n hE eX12_count_41 rfl ?_
    refine zr_aload_n hE eX12_count_42 rfl ?_
    refine zr_getR hE eX12_count_43 fX12_9 zs57 rfl ?_
    refine zr_iconst hE eX12_count_46 (v := 0) (by decide) ?_
    refine zr_ialdv hE eX12_count_47 zs58 (by unfold vp_in; decide) hM.2.1 ?_
    refine zr_kicmp_ge hE eX12_count_48 (tgt := 107) (by decide) (fun zc48 zd48 => absurd ((nI_ltI (by omega) (by omega)).mpr (by omega)) zc48) (fun zc48 zd48 => ?_)
    refine zr_iload_n hE eX12_count_51 rfl ?_
    refine zr_iconst hE eX12_count_52 (v := 1) (by decide) ?_
    refine zr_iadd hE eX12_count_53 ?_
    show G _ _ (.int (nI a + 1) :: _) _
    rw [nI_1]
    refine zr_istore hE eX12_count_54 (by decide) rfl ?_
    refine ct_b hR hM (by omega) (fun b hb => ?_) (c - (a + 1)) (a + 1) s (by omega) (by omega) rfl
    refine zr_iincN hE eX12_count_101 rfl (by decide) rfl ?_
    refine zr_goto hE eX12_count_104 (tgt := 41) (by decide) ?_
    refine zr_mask hE [true, true, true, true, false] ?_
    exact ih (a + 1) _ (by omega) (by rw [← hr, coF])
set_option maxHeartbeats 4000000 in
theorem ct_d {G : zG} {w : ww} {Q : Option Value → ww → Prop} {c : Nat} (hR : zR RX12 cX12_count 5 7 (some .int) Q G) (hM : Mow w c) (hQ : Q (some (.int (fDs (mB w) c))) w) :
    ∀ (k a : Nat) (s : Int32), a + k = c → s = sumN (mB w 4) a → G 111 [some (.ref 57), some (.int 3), some (.int s), some (.int (nI a)), none] [] w := by
  have hE := hR.1
  have hc9 := hM.1
  intro k
  induction k with
  | zero =>
    intro a s h1 hs
    have hac : a ≤ c := by omega
    refine zr_iload_n hE eX12_count_111 rfl ?_
    refine zr_aload_n hE eX12_count_112 rfl ?_
    refine zr_getR hE eX12_count_113 fX12_9 zs57 rfl ?_
    refine zr_iconst hE eX12_count_116 (v := 0) (by decide) ?_
    refine zr_ialdv hE eX12_count_117 zs58 (by unfold vp_in; decide) hM.2.1 ?_
    refine zr_kicmp_ge hE eX12_count_118 (tgt := 136) (by decide) (fun zc118 zd118 => ?_) (fun zc118 zd118 => absurd zc118 (by rw [nI_ltI (by omega) (by omega)]; omega))
    refine zr_iload_n hE eX12_count_136 rfl ?_
    refine hR.2.1 _ _ _ _ _ _ eX12_count_137 rfl rfl ?_
    obtain rfl : a = c := by omega
    rw [hs]
    exact hQ
  | succ k ih =>
    intro a s h1 hs
    have hac : a < c := by omega
    refine zr_iload_n hE eX12_count_111 rfl ?_
    refine zr_aload_n hE eX12_count_112 rfl ?_
    refine zr_getR hE eX12_count_113 fX12_9 zs57 rfl ?_
    refine zr_iconst hE eX12_count_116 (v := 0) (by decide) ?_
    refine zr_ialdv hE eX12_count_117 zs58 (by unfold vp_in; decide) hM.2.1 ?_
    refine zr_kicmp_ge hE eX12_count_118 (tgt := 136) (by decide) (fun zc118 zd118 => absurd ((nI_ltI (by omega) (by omega)).mpr (by omega)) zc118) (fun zc118 zd118 => ?_)
    refine zr_iload_n hE eX12_count_121 rfl ?_
    refine zr_aload_n hE eX12_count_122 rfl ?_
    refine zr_iload_n hE eX12_count_123 rfl ?_
    refine zr_iconst hE eX12_count_124 (v := 4) (by decide) ?_
    refine zr_callV2 hE eX12_count_125 lX12_63 zs57 rfl rfl (by decide) (Nat.le_of_ble_eq_true rfl) (c_X12_get 4 (vpn (show a < 10 by omega) (by decide)) rfl (by decide) ?_)
    rw [nI_clamp (by omega)]
    refine zr_iadd hE eX12_count_128 ?_
    refine zr_istore_n hE eX12_count_129 (by decide) rfl ?_
    refine zr_iincN hE eX12_count_130 rfl (by decide) rfl ?_
    refine zr_goto hE eX12_count_133 (tgt := 111) (by decide) ?_
    exact ih (a + 1) _ (by omega) (by rw [hs, sumN])
set_option maxHeartbeats 4000000 in
theorem c_X12_count {c : Nat} {k : Int32} {w : ww} {Q : Option Value → ww → Prop} (hM : Mow w c) (hQ : Q (some (.int (if k = 0 then w 58 0 else if k = 1 then w 58 1 else if k = 2 then cn2 (fun a b => fLi (mB w) a b (w 58 1)) c else if k = 3 then fDs (mB w) c else -1))) w) : Ct mX12_count 7 [.ref 57, .int k] w Q := by
  refine Ct.of (by decide) (Nat.le_of_ble_eq_true rfl) (fun _ => Nat.le_of_ble_eq_true rfl) (fun G hR => ?_)
  have hE := hR.1
  refine zr_iconst hE eX12_count_0 (v := 0) (by decide) ?_
  refine zr_istore_n hE eX12_count_1 (by decide) rfl ?_
  refine zr_iload_n hE eX12_count_2 rfl ?_
  refine zr_tswK hE eX12_count_3 (0) (29) 32 (0) (by decide) (by decide) (by decide) (by decide) (by decide) (fun zk3_0 => ?_) (fun zk3_0 => ?_)
  · refine zr_aload_n hE eX12_count_32 rfl ?_
    refine zr_getR hE eX12_count_33 fX12_9 zs57 rfl ?_
    refine zr_iload_n hE eX12_count_36 rfl ?_
    refine zr_iald hE eX12_count_37 zs58 (by first | (subst zk3_0; unfold vp_in; decide) | (subst zk3_1; unfold vp_in; decide)) ?_
    refine hR.2.1 _ _ _ _ _ _ eX12_count_38 rfl rfl ?_
    subst zk3_0
    exact hQ
  refine zr_tswK hE eX12_count_3 (1) (29) 32 (1) (by decide) (by decide) (by decide) (by decide) (by decide) (fun zk3_1 => ?_) (fun zk3_1 => ?_)
  · refine zr_aload_n hE eX12_count_32 rfl ?_
    refine zr_getR hE eX12_count_33 fX12_9 zs57 rfl ?_
    refine zr_iload_n hE eX12_count_36 rfl ?_
    refine zr_iald hE eX12_count_37 zs58 (by first | (subst zk3_0; unfold vp_in; decide) | (subst zk3_1; unfold vp_in; decide)) ?_
    refine hR.2.1 _ _ _ _ _ _ eX12_count_38 rfl rfl ?_
    subst zk3_1
    exact hQ
  refine zr_tswK hE eX12_count_3 (2) (36) 39 (2) (by decide) (by decide) (by decide) (by decide) (by decide) (fun zk3_2 => ?_) (fun zk3_2 => ?_)
  · refine zr_iconst hE eX12_count_39 (v := 0) (by decide) ?_
    refine zr_istore_n hE eX12_count_40 (by decide) rfl ?_
    subst zk3_2
    exact ct_a hR hM hQ c 0 0 (by omega) rfl
  refine zr_tswK hE eX12_count_3 (3) (106) 109 (3) (by decide) (by decide) (by decide) (by decide) (by decide) (fun zk3_3 => ?_) (fun zk3_3 => ?_)
  · refine zr_iconst hE eX12_count_109 (v := 0) (by decide) ?_
    refine zr_istore_n hE eX12_count_110 (by decide) rfl ?_
    subst zk3_3
    exact ct_d hR hM hQ c 0 0 (by omega) rfl
  refine zr_tableOut hE eX12_count_3 (tgt := 138) ?_ (by decide) ?_
  · have zm0 := zne zk3_0 (v := 0) (by decide); have zm1 := zne zk3_1 (v := 1) (by decide); have zm2 := zne zk3_2 (v := 2) (by decide); have zm3 := zne zk3_3 (v := 3) (by decide); omega
  refine zr_iconst hE eX12_count_138 (v := -1) (by decide) ?_
  refine hR.2.1 _ _ _ _ _ _ eX12_count_139 rfl rfl ?_
  rw [if_neg zk3_0, if_neg zk3_1, if_neg zk3_2, if_neg zk3_3] at hQ
  exact hQ

def tsV (k f : Int32) : Int32 := if k = 4 ∨ f = 0 then -15 else if k = 5 then 100 + f else if k = 7 then 200 + coK k f else f
set_option maxHeartbeats 4000000 in
theorem c_X12_toss {d : Int32} {w : ww} {Q : Option Value → ww → Prop} (hk : mrK w d = 0 → vp_in (w 65 d.toNatClampNeg) 8) (hQ : Q (some (.int (if mrK w d = 0 then tsV (w 65 d.toNatClampNeg) (w 66 d.toNatClampNeg) else mrK w d))) w) : Ct mX12_toss 4 [.ref 57, .int d] w Q := by
  refine Ct.of (by decide) (Nat.le_of_ble_eq_true rfl) (fun _ => Nat.le_of_ble_eq_true rfl) (fun G hR => ?_)
  have hE := hR.1
  refine zr_aload_n hE eX12_toss_0 rfl ?_
  refine zr_iload_n hE eX12_toss_1 rfl ?_
  refine zr_callV1 hE eX12_toss_2 lX12_153 zs57 rfl rfl (by decide) (Nat.le_of_ble_eq_true rfl) (c_X12_wrongKept ?_)
  refine zr_istore_n hE eX12_toss_5 (by decide) rfl ?_
  refine zr_iload_n hE eX12_toss_6 rfl ?_
  refine zr_if_eq hE eX12_toss_7 (tgt := 12) (by decide) (fun zc7 => ?_) (fun zc7 => ?_)
  · refine zr_aload_n hE eX12_toss_12 rfl ?_
    refine zr_getR hE eX12_toss_13 fX12_31 zs57 rfl ?_
    refine zr_iload_n hE eX12_toss_16 rfl ?_
    refine zr_iald hE eX12_toss_17 zs65 (fIs_vp (mrK_0 zc7).1) ?_
    refine zr_istore_n hE eX12_toss_18 (by decide) rfl ?_
    refine zr_aload_n hE eX12_toss_19 rfl ?_
    refine zr_getR hE eX12_toss_20 fX12_34 zs57 rfl ?_
    refine zr_iload_n hE eX12_toss_23 rfl ?_
    refine zr_iald hE eX12_toss_24 zs66 (fIs_vp (mrK_0 zc7).1) ?_
    refine zr_istore hE eX12_toss_25 (by decide) rfl ?_
    refine zr_iload_n hE eX12_toss_27 rfl ?_
    refine zr_iconst hE eX12_toss_28 (v := 4) (by decide) ?_
    refine zr_icmp_eq hE eX12_toss_29 (tgt := 37) (by decide) (fun zc29 => ?_) (fun zc29 => ?_)
    · refine zr_bipush hE eX12_toss_37 (v := -15) (by decide) ?_
      refine zr_goto hE eX12_toss_39 (tgt := 76) (by decide) ?_
      refine hR.2.1 _ _ _ _ _ _ eX12_toss_76 rfl rfl ?_
      rw [if_pos zc7] at hQ
      unfold tsV at hQ
      rw [if_pos (Or.inl zc29)] at hQ
      exact hQ
    · refine zr_iload hE eX12_toss_32 rfl ?_
      refine zr_if_ne hE eX12_toss_34 (tgt := 42) (by decide) (fun zc34 => ?_) (fun zc34 => ?_)
      · refine zr_iload_n hE eX12_toss_42 rfl ?_
        refine zr_iconst hE eX12_toss_43 (v := 5) (by decide) ?_
        refine zr_icmp_ne hE eX12_toss_44 (tgt := 55) (by decide) (fun zc44 => ?_) (fun zc44 => ?_)
        · refine zr_iload_n hE eX12_toss_55 rfl ?_
          refine zr_bipush hE eX12_toss_56 (v := 7) (by decide) ?_
          refine zr_icmp_ne hE eX12_toss_58 (tgt := 74) (by decide) (fun zc58 => ?_) (fun zc58 => ?_)
          · refine zr_iload hE eX12_toss_74 rfl ?_
            refine hR.2.1 _ _ _ _ _ _ eX12_toss_76 rfl rfl ?_
            rw [if_pos zc7] at hQ
            unfold tsV at hQ
            rw [if_neg (fun q => q.elim zc29 zc34), if_neg zc44, if_neg zc58] at hQ
            exact hQ
          · refine zr_sipush hE eX12_toss_61 (v := 200) (by decide) ?_
            refine zr_iload_n hE eX12_toss_64 rfl ?_
            refine zr_iload hE eX12_toss_65 rfl ?_
            refine zr_callS2 hE eX12_toss_67 lX12_235 (by decide) (Nat.le_of_ble_eq_true rfl) (c_X12_priceBy (hk zc7) ?_)
            refine zr_iadd hE eX12_toss_70 ?_
            refine zr_goto hE eX12_toss_71 (tgt := 76) (by decide) ?_
            refine hR.2.1 _ _ _ _ _ _ eX12_toss_76 rfl rfl ?_
            rw [if_pos zc7] at hQ
            unfold tsV at hQ
            rw [if_neg (fun q => q.elim zc29 zc34), if_neg zc44, if_pos zc58] at hQ
            exact hQ
        · refine zr_bipush hE eX12_toss_47 (v := 100) (by decide) ?_
          refine zr_iload hE eX12_toss_49 rfl ?_
          refine zr_iadd hE eX12_toss_51 ?_
          refine zr_goto hE eX12_toss_52 (tgt := 76) (by decide) ?_
          refine hR.2.1 _ _ _ _ _ _ eX12_toss_76 rfl rfl ?_
          rw [if_pos zc7] at hQ
          unfold tsV at hQ
          rw [if_neg (fun q => q.elim zc29 zc34), if_pos zc44] at hQ
          exact hQ
      · refine zr_bipush hE eX12_toss_37 (v := -15) (by decide) ?_
        refine zr_goto hE eX12_toss_39 (tgt := 76) (by decide) ?_
        refine hR.2.1 _ _ _ _ _ _ eX12_toss_76 rfl rfl ?_
        rw [if_pos zc7] at hQ
        unfold tsV at hQ
        rw [if_pos (Or.inr zc34)] at hQ
        exact hQ
  · refine zr_iload_n hE eX12_toss_10 rfl ?_
    refine hR.2.1 _ _ _ _ _ _ eX12_toss_11 rfl rfl ?_
    rw [if_neg zc7] at hQ
    exact hQ

theorem c1b : ∀ c, c < 101 → (nI c - 1).toInt = (c : Int) - 1 ∧ (nI c).toInt = (c : Int) := by decide +kernel
theorem isPc {b : Int32} {c : Nat} (hc : c ≤ 100) (h : fIs b 0 (nI c - 1) = true) : ∃ i, i < c ∧ b = nI i := by
  obtain ⟨h1, h2⟩ := c1b c (by omega)
  simp only [fIs, Bool.and_eq_true, decide_eq_true_eq] at h
  obtain ⟨a, ha, rfl⟩ := nI_of (x := b) (fun q => absurd (Int32.lt_of_le_of_lt h.1 q) (by decide))
  have h3 := h.2
  rw [Int32.le_iff_toInt_le, h1, nI_toInt ha] at h3
  exact ⟨a, by omega, rfl⟩
def mpE (w : ww) (d i : Int32) : Int32 := if mrR w d (-1) = 0 then (if fIs i 0 (w 63 d.toNatClampNeg - 1) = true then 0 else -13) else mrR w d (-1)
set_option maxHeartbeats 4000000 in
theorem c_X12_put {d i v : Int32} {w : ww} {Q : Option Value → ww → Prop} (hZ : Msz w) (hQ1 : ¬ mpE w d i = 0 → Q (some (.int (mpE w d i))) w) (hQ2 : ∀ dn m, dn < 8 → d = nI dn → m < 100 → i = nI m → mpE w d i = 0 → Q (some (.int 0)) (wu w 64 (100 * dn + m) (sNar (w 62 dn) v))) : Ct mX12_put 4 [.ref 57, .int d, .int i, .int v] w Q := by
  refine Ct.of (by decide) (Nat.le_of_ble_eq_true rfl) (fun _ => Nat.le_of_ble_eq_true rfl) (fun G hR => ?_)
  have hE := hR.1
  refine zr_aload_n hE eX12_put_0 rfl ?_
  refine zr_iload_n hE eX12_put_1 rfl ?_
  refine zr_iconst hE eX12_put_2 (v := -1) (by decide) ?_
  refine zr_callV2 hE eX12_put_3 lX12_132 zs57 rfl rfl (by decide) (Nat.le_of_ble_eq_true rfl) (c_X12_wrongRow ?_)
  refine zr_istore hE eX12_put_6 (by decide) rfl ?_
  refine zr_iload hE eX12_put_8 rfl ?_
  refine zr_if_eq hE eX12_put_10 (tgt := 16) (by decide) (fun zc10 => ?_) (fun zc10 => ?_)
  · refine zr_iload_n hE eX12_put_16 rfl ?_
    refine zr_i2l hE eX12_put_17 ?_
    refine zr_lconst hE eX12_put_18 (v := 0) (by decide) ?_
    refine zr_aload_n hE eX12_put_19 rfl ?_
    refine zr_getR hE eX12_put_20 fX12_25 zs57 rfl ?_
    refine zr_iload_n hE eX12_put_23 rfl ?_
    refine zr_iald hE eX12_put_24 zs63 (by obtain ⟨dn, hdn, rfl⟩ := mrR_0 zc10; exact vpn hdn (by decide)) ?_
    refine zr_iconst hE eX12_put_25 (v := 1) (by decide) ?_
    refine zr_isub hE eX12_put_26 ?_
    refine zr_i2l hE eX12_put_27 ?_
    refine zr_callS3 hE eX12_put_28 lX12_55 (by decide) (Nat.le_of_ble_eq_true rfl) (c_X12_isIn32 0 (w 63 d.toNatClampNeg - 1) (by decide) rfl ?_)
    refine zr_bne hE eX12_put_31 (tgt := 37) (by decide) (fun zc31 => ?_) (fun zc31 => ?_)
    · obtain ⟨dn, hdn, rfl⟩ := mrR_0 zc10
      have xe1 : (nI dn).toNatClampNeg = dn := nI_clamp (by omega)
      obtain ⟨xn, xn1, xn2⟩ := hZ dn hdn
      obtain ⟨i, hin, rfl⟩ := isPc xn1 (by rw [← xn2]; rw [xe1] at zc31; exact zc31)
      have hi100 : i < 100 := by omega
      refine zr_aload_n hE eX12_put_37 rfl ?_
      refine zr_getR hE eX12_put_38 fX12_28 zs57 rfl ?_
      refine zr_bipush hE eX12_put_41 (v := 100) (by decide) ?_
      refine zr_iload_n hE eX12_put_43 rfl ?_
      refine zr_imul hE eX12_put_44 ?_
      refine zr_iload_n hE eX12_put_45 rfl ?_
      refine zr_iadd hE eX12_put_46 ?_
      show G _ _ (.int ((100 : Int32) * nI dn + nI i) :: _) _
      rw [eix]
      refine zr_aload_n hE eX12_put_47 rfl ?_
      refine zr_getR hE eX12_put_48 fX12_22 zs57 rfl ?_
      refine zr_iload_n hE eX12_put_51 rfl ?_
      refine zr_iald hE eX12_put_52 zs62 (vpn hdn (by decide)) ?_
      rw [xe1]
      refine zr_if_ne hE eX12_put_53 (tgt := 61) (by decide) (fun zc53 => ?_) (fun zc53 => ?_)
      · refine zr_aload_n hE eX12_put_61 rfl ?_
        refine zr_getR hE eX12_put_62 fX12_22 zs57 rfl ?_
        refine zr_iload_n hE eX12_put_65 rfl ?_
        refine zr_iald hE eX12_put_66 zs62 (vpn hdn (by decide)) ?_
        rw [xe1]
        refine zr_iconst hE eX12_put_67 (v := 1) (by decide) ?_
        refine zr_icmp_ne hE eX12_put_68 (tgt := 76) (by decide) (fun zc68 => ?_) (fun zc68 => ?_)
        · refine zr_iload_n hE eX12_put_76 rfl ?_
          refine zr_iast hE eX12_put_77 zs64 (vpn (show 100 * dn + i < 800 by omega) (by decide)) ?_
          refine zr_iconst hE eX12_put_78 (v := 0) (by decide) ?_
          refine hR.2.1 _ _ _ _ _ _ eX12_put_79 rfl rfl ?_
          rw [nI_clamp (by omega)]
          have q := hQ2 dn i hdn rfl hi100 rfl (by unfold mpE; rw [if_pos zc10, if_pos zc31])
          unfold sNar at q
          rw [if_neg zc53, if_neg zc68] at q
          exact q
        · refine zr_iload_n hE eX12_put_71 rfl ?_
          refine zr_i2s hE eX12_put_72 ?_
          refine zr_goto hE eX12_put_73 (tgt := 77) (by decide) ?_
          refine zr_iast hE eX12_put_77 zs64 (vpn (show 100 * dn + i < 800 by omega) (by decide)) ?_
          refine zr_iconst hE eX12_put_78 (v := 0) (by decide) ?_
          refine hR.2.1 _ _ _ _ _ _ eX12_put_79 rfl rfl ?_
          rw [nI_clamp (by omega)]
          have q := hQ2 dn i hdn rfl hi100 rfl (by unfold mpE; rw [if_pos zc10, if_pos zc31])
          unfold sNar at q
          rw [if_neg zc53, if_pos zc68] at q
          exact q
      · refine zr_iload_n hE eX12_put_56 rfl ?_
        refine zr_i2b hE eX12_put_57 ?_
        refine zr_goto hE eX12_put_58 (tgt := 77) (by decide) ?_
        refine zr_iast hE eX12_put_77 zs64 (vpn (show 100 * dn + i < 800 by omega) (by decide)) ?_
        refine zr_iconst hE eX12_put_78 (v := 0) (by decide) ?_
        refine hR.2.1 _ _ _ _ _ _ eX12_put_79 rfl rfl ?_
        rw [nI_clamp (by omega)]
        have q := hQ2 dn i hdn rfl hi100 rfl (by unfold mpE; rw [if_pos zc10, if_pos zc31])
        unfold sNar at q
        rw [if_pos zc53] at q
        exact q
    · refine zr_bipush hE eX12_put_34 (v := -13) (by decide) ?_
      refine hR.2.1 _ _ _ _ _ _ eX12_put_36 rfl rfl ?_
      have x : mpE w d i = -13 := by unfold mpE; rw [if_pos zc10, if_neg (fun q => by rw [zc31] at q; cases q)]
      rw [x] at hQ1
      exact hQ1 (by decide)
  · refine zr_iload hE eX12_put_13 rfl ?_
    refine hR.2.1 _ _ _ _ _ _ eX12_put_15 rfl rfl ?_
    have x : mpE w d i = mrR w d (-1) := if_neg zc10
    rw [x] at hQ1
    exact hQ1 zc10

def mlT (w : ww) (d i : Int32) : Int32 := if fIs d 0 7 = false then 1 else if ¬ w 61 d.toNatClampNeg = 2 ∨ fIs i 0 (w 63 d.toNatClampNeg - 1) = false then 2 else 0
set_option maxHeartbeats 4000000 in
theorem c_X12_element {d i : Int32} {w : ww} {Q : Option Value → ww → Prop} (hZ : Msz w) (hQ1 : ¬ mlT w d i = 0 → Q (some (.long 0)) (wu w 57 10 (mlT w d i))) (hQ2 : ∀ dn m, dn < 8 → d = nI dn → m < 100 → i = nI m → mlT w d i = 0 → Q (some (.long (w 64 (100 * dn + m)).toInt64)) (wu w 57 10 0)) : Ct mX12_element 3 [.ref 57, .int d, .int i] w Q := by
  refine Ct.of (by decide) (Nat.le_of_ble_eq_true rfl) (fun _ => Nat.le_of_ble_eq_true rfl) (fun G hR => ?_)
  have hE := hR.1
  refine zr_aload_n hE eX12_element_0 rfl ?_
  refine zr_iload_n hE eX12_element_1 rfl ?_
  refine zr_callS1 hE eX12_element_2 lX12_129 (by decide) (Nat.le_of_ble_eq_true rfl) (c_X12_isShelf ?_)
  refine zr_bne hE eX12_element_5 (tgt := 12) (by decide) (fun zc5 => ?_) (fun zc5 => ?_)
  · refine zr_aload_n hE eX12_element_12 rfl ?_
    refine zr_getR hE eX12_element_13 fX12_19 zs57 rfl ?_
    refine zr_iload_n hE eX12_element_16 rfl ?_
    refine zr_iald hE eX12_element_17 zs61 (fIs_vp zc5) ?_
    refine zr_iconst hE eX12_element_18 (v := 2) (by decide) ?_
    refine zr_icmp_ne hE eX12_element_19 (tgt := 40) (by decide) (fun zc19 => ?_) (fun zc19 => ?_)
    · refine zr_iconst hE eX12_element_40 (v := 2) (by decide) ?_
      refine zr_goto hE eX12_element_41 (tgt := 45) (by decide) ?_
      have xt : mlT w d i = 2 := by unfold mlT; rw [if_neg (fun q => by rw [zc5] at q; cases q), if_pos (Or.inl zc19)]
      refine zr_put hE eX12_element_45 gX12_49 zs57 rfl rfl rfl ?_
      refine zr_aload_n hE eX12_element_48 rfl ?_
      refine zr_getI hE eX12_element_49 fX12_49 zs57 rfl ?_
      rw [wu_eq]
      refine zr_if_ne hE eX12_element_52 (tgt := 70) (by decide) (fun zc52 => ?_) (fun zc52 => absurd zc52 (by decide))
      refine zr_lconst hE eX12_element_70 (v := 0) (by decide) ?_
      refine hR.2.2.1 _ _ _ _ _ eX12_element_71 rfl ?_
      have q := hQ1 (by rw [xt]; decide)
      rw [xt] at q
      exact q
    · refine zr_iload_n hE eX12_element_22 rfl ?_
      refine zr_i2l hE eX12_element_23 ?_
      refine zr_lconst hE eX12_element_24 (v := 0) (by decide) ?_
      refine zr_aload_n hE eX12_element_25 rfl ?_
      refine zr_getR hE eX12_element_26 fX12_25 zs57 rfl ?_
      refine zr_iload_n hE eX12_element_29 rfl ?_
      refine zr_iald hE eX12_element_30 zs63 (fIs_vp zc5) ?_
      refine zr_iconst hE eX12_element_31 (v := 1) (by decide) ?_
      refine zr_isub hE eX12_element_32 ?_
      refine zr_i2l hE eX12_element_33 ?_
      refine zr_callS3 hE eX12_element_34 lX12_55 (by decide) (Nat.le_of_ble_eq_true rfl) (c_X12_isIn32 0 (w 63 d.toNatClampNeg - 1) (by decide) rfl ?_)
      refine zr_bne hE eX12_element_37 (tgt := 44) (by decide) (fun zc37 => ?_) (fun zc37 => ?_)
      · refine zr_iconst hE eX12_element_44 (v := 0) (by decide) ?_
        have xt : mlT w d i = 0 := by unfold mlT; rw [if_neg (fun q => by rw [zc5] at q; cases q), if_neg (fun q => q.elim (fun q => q zc19) (fun q => by rw [zc37] at q; cases q))]
        obtain ⟨dn, hdn, rfl⟩ := fIs7 zc5
        have xe1 : (nI dn).toNatClampNeg = dn := nI_clamp (by omega)
        obtain ⟨xn, xn1, xn2⟩ := hZ dn hdn
        obtain ⟨i, hin, rfl⟩ := isPc xn1 (by rw [← xn2]; rw [xe1] at zc37; exact zc37)
        have hi100 : i < 100 := by omega
        refine zr_put hE eX12_element_45 gX12_49 zs57 rfl rfl rfl ?_
        refine zr_aload_n hE eX12_element_48 rfl ?_
        refine zr_getI hE eX12_element_49 fX12_49 zs57 rfl ?_
        rw [wu_eq]
        refine zr_if_ne hE eX12_element_52 (tgt := 70) (by decide) (fun zc52 => absurd rfl zc52) (fun zc52 => ?_)
        refine zr_aload_n hE eX12_element_55 rfl ?_
        refine zr_getR hE eX12_element_56 fX12_28 zs57 rfl ?_
        refine zr_bipush hE eX12_element_59 (v := 100) (by decide) ?_
        refine zr_iload_n hE eX12_element_61 rfl ?_
        refine zr_imul hE eX12_element_62 ?_
        refine zr_iload_n hE eX12_element_63 rfl ?_
        refine zr_iadd hE eX12_element_64 ?_
        show G _ _ (.int ((100 : Int32) * nI dn + nI i) :: _) _
        rw [eix]
        refine zr_iald hE eX12_element_65 zs64 (vpn (show 100 * dn + i < 800 by omega) (by decide)) ?_
        refine zr_i2l hE eX12_element_66 ?_
        refine zr_goto hE eX12_element_67 (tgt := 71) (by decide) ?_
        refine hR.2.2.1 _ _ _ _ _ eX12_element_71 rfl ?_
        rw [nI_clamp (by omega), wu_ne (by decide)]
        exact hQ2 dn i hdn rfl hi100 rfl xt
      · refine zr_iconst hE eX12_element_40 (v := 2) (by decide) ?_
        refine zr_goto hE eX12_element_41 (tgt := 45) (by decide) ?_
        have xt : mlT w d i = 2 := by unfold mlT; rw [if_neg (fun q => by rw [zc5] at q; cases q), if_pos (Or.inr zc37)]
        refine zr_put hE eX12_element_45 gX12_49 zs57 rfl rfl rfl ?_
        refine zr_aload_n hE eX12_element_48 rfl ?_
        refine zr_getI hE eX12_element_49 fX12_49 zs57 rfl ?_
        rw [wu_eq]
        refine zr_if_ne hE eX12_element_52 (tgt := 70) (by decide) (fun zc52 => ?_) (fun zc52 => absurd zc52 (by decide))
        refine zr_lconst hE eX12_element_70 (v := 0) (by decide) ?_
        refine hR.2.2.1 _ _ _ _ _ eX12_element_71 rfl ?_
        have q := hQ1 (by rw [xt]; decide)
        rw [xt] at q
        exact q
  · refine zr_iconst hE eX12_element_8 (v := 1) (by decide) ?_
    refine zr_goto hE eX12_element_9 (tgt := 45) (by decide) ?_
    have xt : mlT w d i = 1 := by unfold mlT; rw [if_pos zc5]
    refine zr_put hE eX12_element_45 gX12_49 zs57 rfl rfl rfl ?_
    refine zr_aload_n hE eX12_element_48 rfl ?_
    refine zr_getI hE eX12_element_49 fX12_49 zs57 rfl ?_
    rw [wu_eq]
    refine zr_if_ne hE eX12_element_52 (tgt := 70) (by decide) (fun zc52 => ?_) (fun zc52 => absurd zc52 (by decide))
    refine zr_lconst hE eX12_element_70 (v := 0) (by decide) ?_
    refine hR.2.2.1 _ _ _ _ _ eX12_element_71 rfl ?_
    have q := hQ1 (by rw [xt]; decide)
    rw [xt] at q
    exact q

