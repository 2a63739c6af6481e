/-! The reference: comesTold. -/
def mtl (w : ww) (cN : Nat) (c : Int32) (vs : Nat → Int32) : Option ww :=
  if c = 98 then (if vs 0 < 8 ∧ vs 2 < 2 ∧ 0 < vs 3 ∧ 0 < vs 4 ∧ cN < 9 then some (wu (mAd w cN (vs 0) (vs 1) (vs 2) (vs 3) (vs 4)) 58 0 (nI (cN + 1))) else none)
  else if c = 116 then (if 0 ≤ vs 0 ∧ vs 0 < nI cN then some (wu w 58 (2 + 5 * (vs 0).toNatClampNeg + 2) (1 - mB w 2 (vs 0).toNatClampNeg)) else none)
  else if c = 119 then some (wu w 58 1 (vs 0)) else if cN = 0 then none else some (wu w 58 0 (nI (cN - 1)))
def mAk (w : ww) (cN : Nat) (vs : Nat → Int32) : Nat → ww
  | 0 => w
  | k + 1 => wu (mAk w cN vs k) 58 (2 + 5 * cN + k) (vs k)
theorem mAk_5 {w : ww} {cN : Nat} {vs : Nat → Int32} : mAk w cN vs 5 = mAd w cN (vs 0) (vs 1) (vs 2) (vs 3) (vs 4) := rfl
theorem mAk_0 {w : ww} {cN : Nat} {vs : Nat → Int32} : ∀ k, mAk w cN vs k 58 0 = w 58 0
  | 0 => rfl
  | k + 1 => by rw [mAk, wu_nj (by omega)]; exact mAk_0 k
theorem mAk_67 {w : ww} {cN j : Nat} {vs : Nat → Int32} : ∀ k, mAk w cN vs k 67 j = w 67 j
  | 0 => rfl
  | k + 1 => by rw [mAk, wu_ne (by decide)]; exact mAk_67 k
theorem tnk : ∀ k, k < 6 → (nI k).toNatClampNeg = k := fun k h => nI_clamp (by omega)
set_option maxHeartbeats 4000000 in
theorem cto_lp {G : zG} {w : ww} {Q : Option Value → ww → Prop} {cN : Nat} {c a b : Int32} {vs : Nat → Int32} (hR : zR RX12 cX12_comesTold 5 3 (some .boolean) Q G) (hc : cN < 9) (h0 : w 58 0 = nI cN) (hv : ∀ j, j < 5 → w 67 j = vs j)
    (kk : G 135 [some (.ref 57), some (.int c), some (.int a), some (.int b), some (.int (nI 5))] [] (mAk w cN vs 5)) :
    ∀ (m k : Nat), k ≤ 5 → 5 - k = m → G 104 [some (.ref 57), some (.int c), some (.int a), some (.int b), some (.int (nI k))] [] (mAk w cN vs k) := by
  have hE := hR.1
  intro m
  induction m with
  | zero =>
    intro k h1 h2
    refine zr_iload hE eX12_comesTold_104 rfl ?_
    refine zr_iconst hE eX12_comesTold_106 (v := 5) (by decide) ?_
    refine zr_kicmp_ge hE eX12_comesTold_107 (tgt := 135) (by decide) (fun zc107 zd107 => ?_) (fun zc107 zd107 => absurd zc107 (by rw [show (5 : Int32) = nI 5 from rfl, nI_ltI (by omega) (by decide)]; omega))
    obtain rfl : k = 5 := by omega
    exact kk
  | succ m0 ih =>
    intro k h1 h2
    refine zr_iload hE eX12_comesTold_104 rfl ?_
    refine zr_iconst hE eX12_comesTold_106 (v := 5) (by decide) ?_
    refine zr_kicmp_ge hE eX12_comesTold_107 (tgt := 135) (by decide) (fun zc107 zd107 => absurd ((nI_ltI (by omega) (by decide)).mpr (show k < 5 by omega)) zc107) (fun zc107 zd107 => ?_)
    refine zr_aload_n hE eX12_comesTold_110 rfl ?_
    refine zr_aload_n hE eX12_comesTold_111 rfl ?_
    refine zr_getR hE eX12_comesTold_112 fX12_9 zs57 rfl ?_
    refine zr_iconst hE eX12_comesTold_115 (v := 0) (by decide) ?_
    refine zr_ialdv hE eX12_comesTold_116 zs58 (by unfold vp_in; decide) ((mAk_0 k).trans h0) ?_
    refine zr_iload hE eX12_comesTold_117 rfl ?_
    refine zr_aload_n hE eX12_comesTold_119 rfl ?_
    refine zr_getR hE eX12_comesTold_120 fX12_37 zs57 rfl ?_
    refine zr_iload hE eX12_comesTold_123 rfl ?_
    refine zr_ialdv hE eX12_comesTold_125 zs67 (vpn (show k < 5 by omega) (by decide)) ((congrArg (mAk w cN vs k 67) (nI_clamp (by omega))).trans ((mAk_67 k).trans (hv k (by omega)))) ?_
    refine zr_callV3 hE eX12_comesTold_126 lX12_122 zs57 rfl rfl (by decide) (Nat.le_of_ble_eq_true rfl) (c_X12_puts k (vpn (show cN < 10 by omega) (by decide)) rfl (by omega) ?_)
    refine zr_iincN hE eX12_comesTold_129 rfl (by decide) rfl ?_
    refine zr_goto hE eX12_comesTold_132 (tgt := 104) (by decide) ?_
    rw [nI_clamp (by omega)]
    exact ih (k + 1) (by omega) (by omega)
set_option maxHeartbeats 4000000 in
theorem c_X12_comesTold {cN : Nat} {c : Int32} {vs : Nat → Int32} {w : ww} {Q : Option Value → ww → Prop} (hM : Mow w cN) (hS : SR c vs w) (hQ : Q (some (.int (bi (mtl w cN c vs).isSome))) ((mtl w cN c vs).getD w)) : Ct mX12_comesTold 3 [.ref 57, .int c] w Q := by
  refine Ct.of (by decide) (Nat.le_of_ble_eq_true rfl) (fun _ => Nat.le_of_ble_eq_true rfl) (fun G hR => ?_)
  have hE := hR.1
  refine zr_aload_n hE eX12_comesTold_0 rfl ?_
  refine zr_getR hE eX12_comesTold_1 fX12_37 zs57 rfl ?_
  refine zr_iconst hE eX12_comesTold_4 (v := 0) (by decide) ?_
  refine zr_iald hE eX12_comesTold_5 zs67 (by unfold vp_in; decide) ?_
  refine zr_istore_n hE eX12_comesTold_6 (by decide) rfl ?_
  refine zr_iload_n hE eX12_comesTold_7 rfl ?_
  refine zr_lswK hE eX12_comesTold_8 (by decide) (98) (36) 44 (98) (by decide) (by decide) (by decide) (fun zk8_98 => ?_) (fun zk8_98 => ?_)
  · have hv := hS.2 zk8_98
    have h00 := hS.1 (by rw [zk8_98]; decide)
    have hc9 := hM.1
    have hv2 : w 67 ((2 : Int32).toNatClampNeg) = vs 2 := hv 2 (by decide)
    have hv3 : w 67 ((3 : Int32).toNatClampNeg) = vs 3 := hv 3 (by decide)
    have hv4 : w 67 ((4 : Int32).toNatClampNeg) = vs 4 := hv 4 (by decide)
    have hx : w 67 ((0 : Int32).toNatClampNeg) = vs 0 := h00
    rw [hx]
    refine zr_iload_n hE eX12_comesTold_44 rfl ?_
    refine zr_bipush hE eX12_comesTold_45 (v := 8) (by decide) ?_
    refine zr_kicmp_ge hE eX12_comesTold_47 (tgt := 93) (by decide) (fun zc47 zd47 => ?_) (fun zc47 zd47 => ?_)
    · refine zr_iconst hE eX12_comesTold_93 (v := 0) (by decide) ?_
      refine zr_istore_n hE eX12_comesTold_94 (by decide) rfl ?_
      refine zr_iload_n hE eX12_comesTold_95 rfl ?_
      refine zr_if_ne hE eX12_comesTold_96 (tgt := 101) (by decide) (fun zc96 => absurd zc96 (by decide)) (fun _ => ?_)
      refine zr_iconst hE eX12_comesTold_99 (v := 0) (by decide) ?_
      refine hR.2.1 _ _ _ _ _ _ eX12_comesTold_100 rfl rfl ?_
      have e : mtl w cN c vs = none := by unfold mtl; rw [if_pos zk8_98, if_neg (fun q => zc47 q.1)]
      rw [e] at hQ
      exact hQ
    · refine zr_aload_n hE eX12_comesTold_50 rfl ?_
      refine zr_getR hE eX12_comesTold_51 fX12_37 zs57 rfl ?_
      refine zr_iconst hE eX12_comesTold_54 (v := 2) (by decide) ?_
      refine zr_ialdv hE eX12_comesTold_55 zs67 (by unfold vp_in; decide) hv2 ?_
      refine zr_iconst hE eX12_comesTold_56 (v := 2) (by decide) ?_
      refine zr_kicmp_ge hE eX12_comesTold_57 (tgt := 93) (by decide) (fun zc57 zd57 => ?_) (fun zc57 zd57 => ?_)
      · refine zr_iconst hE eX12_comesTold_93 (v := 0) (by decide) ?_
        refine zr_istore_n hE eX12_comesTold_94 (by decide) rfl ?_
        refine zr_iload_n hE eX12_comesTold_95 rfl ?_
        refine zr_if_ne hE eX12_comesTold_96 (tgt := 101) (by decide) (fun zc96 => absurd zc96 (by decide)) (fun _ => ?_)
        refine zr_iconst hE eX12_comesTold_99 (v := 0) (by decide) ?_
        refine hR.2.1 _ _ _ _ _ _ eX12_comesTold_100 rfl rfl ?_
        have e : mtl w cN c vs = none := by unfold mtl; rw [if_pos zk8_98, if_neg (fun q => zc57 q.2.1)]
        rw [e] at hQ
        exact hQ
      · refine zr_aload_n hE eX12_comesTold_60 rfl ?_
        refine zr_getR hE eX12_comesTold_61 fX12_37 zs57 rfl ?_
        refine zr_iconst hE eX12_comesTold_64 (v := 3) (by decide) ?_
        refine zr_ialdv hE eX12_comesTold_65 zs67 (by unfold vp_in; decide) hv3 ?_
        refine zr_kif_le hE eX12_comesTold_66 (tgt := 93) (by decide) (fun zc66 zd66 => ?_) (fun zc66 zd66 => ?_)
        · refine zr_iconst hE eX12_comesTold_93 (v := 0) (by decide) ?_
          refine zr_istore_n hE eX12_comesTold_94 (by decide) rfl ?_
          refine zr_iload_n hE eX12_comesTold_95 rfl ?_
          refine zr_if_ne hE eX12_comesTold_96 (tgt := 101) (by decide) (fun zc96 => absurd zc96 (by decide)) (fun _ => ?_)
          refine zr_iconst hE eX12_comesTold_99 (v := 0) (by decide) ?_
          refine hR.2.1 _ _ _ _ _ _ eX12_comesTold_100 rfl rfl ?_
          have e : mtl w cN c vs = none := by unfold mtl; rw [if_pos zk8_98, if_neg (fun q => zc66 q.2.2.1)]
          rw [e] at hQ
          exact hQ
        · refine zr_aload_n hE eX12_comesTold_69 rfl ?_
          refine zr_getR hE eX12_comesTold_70 fX12_37 zs57 rfl ?_
          refine zr_iconst hE eX12_comesTold_73 (v := 4) (by decide) ?_
          refine zr_ialdv hE eX12_comesTold_74 zs67 (by unfold vp_in; decide) hv4 ?_
          refine zr_kif_le hE eX12_comesTold_75 (tgt := 93) (by decide) (fun zc75 zd75 => ?_) (fun zc75 zd75 => ?_)
          · refine zr_iconst hE eX12_comesTold_93 (v := 0) (by decide) ?_
            refine zr_istore_n hE eX12_comesTold_94 (by decide) rfl ?_
            refine zr_iload_n hE eX12_comesTold_95 rfl ?_
            refine zr_if_ne hE eX12_comesTold_96 (tgt := 101) (by decide) (fun zc96 => absurd zc96 (by decide)) (fun _ => ?_)
            refine zr_iconst hE eX12_comesTold_99 (v := 0) (by decide) ?_
            refine hR.2.1 _ _ _ _ _ _ eX12_comesTold_100 rfl rfl ?_
            have e : mtl w cN c vs = none := by unfold mtl; rw [if_pos zk8_98, if_neg (fun q => zc75 q.2.2.2.1)]
            rw [e] at hQ
            exact hQ
          · refine zr_aload_n hE eX12_comesTold_78 rfl ?_
            refine zr_getR hE eX12_comesTold_79 fX12_9 zs57 rfl ?_
            refine zr_iconst hE eX12_comesTold_82 (v := 0) (by decide) ?_
            refine zr_ialdv hE eX12_comesTold_83 zs58 (by unfold vp_in; decide) hM.2.1 ?_
            refine zr_bipush hE eX12_comesTold_84 (v := 9) (by decide) ?_
            refine zr_kicmp_ge hE eX12_comesTold_86 (tgt := 93) (by decide) (fun zc86 zd86 => ?_) (fun zc86 zd86 => ?_)
            · refine zr_iconst hE eX12_comesTold_93 (v := 0) (by decide) ?_
              refine zr_istore_n hE eX12_comesTold_94 (by decide) rfl ?_
              refine zr_iload_n hE eX12_comesTold_95 rfl ?_
              refine zr_if_ne hE eX12_comesTold_96 (tgt := 101) (by decide) (fun zc96 => absurd zc96 (by decide)) (fun _ => ?_)
              refine zr_iconst hE eX12_comesTold_99 (v := 0) (by decide) ?_
              refine hR.2.1 _ _ _ _ _ _ eX12_comesTold_100 rfl rfl ?_
              have e : mtl w cN c vs = none := by unfold mtl; rw [if_pos zk8_98, if_neg (fun q => zc86 ((nI_ltI (by omega) (by decide)).mpr q.2.2.2.2))]
              rw [e] at hQ
              exact hQ
            · refine zr_iconst hE eX12_comesTold_89 (v := 1) (by decide) ?_
              refine zr_goto hE eX12_comesTold_90 (tgt := 94) (by decide) ?_
              refine zr_istore_n hE eX12_comesTold_94 (by decide) rfl ?_
              refine zr_iload_n hE eX12_comesTold_95 rfl ?_
              refine zr_if_ne hE eX12_comesTold_96 (tgt := 101) (by decide) (fun _ => ?_) (fun zc96 => absurd zc96 (by decide))
              refine zr_iconst hE eX12_comesTold_101 (v := 0) (by decide) ?_
              refine zr_istore hE eX12_comesTold_102 (by decide) rfl ?_
              have xcN : cN < 9 := (nI_ltI (by omega) (by decide)).mp zc86
              refine cto_lp hR xcN hM.2.1 hv ?_ 5 0 (Nat.zero_le _) rfl
              have xa := zc47
              refine zr_aload_n hE eX12_comesTold_135 rfl ?_
              refine zr_getR hE eX12_comesTold_136 fX12_9 zs57 rfl ?_
              refine zr_iconst hE eX12_comesTold_139 (v := 0) (by decide) ?_
              refine zr_dup2 hE eX12_comesTold_140 rfl rfl ?_
              refine zr_ialdv hE eX12_comesTold_141 zs58 (by unfold vp_in; decide) ((mAk_0 5).trans hM.2.1) ?_
              refine zr_iconst hE eX12_comesTold_142 (v := 1) (by decide) ?_
              refine zr_iadd hE eX12_comesTold_143 ?_
              show G _ _ (.int (nI cN + 1) :: _) _
              rw [nI_1]
              refine zr_iast hE eX12_comesTold_144 zs58 (by unfold vp_in; decide) ?_
              refine zr_iconst hE eX12_comesTold_145 (v := 1) (by decide) ?_
              refine hR.2.1 _ _ _ _ _ _ eX12_comesTold_146 rfl rfl ?_
              have e : mtl w cN c vs = some (wu (mAd w cN (vs 0) (vs 1) (vs 2) (vs 3) (vs 4)) 58 0 (nI (cN + 1))) := by unfold mtl; rw [if_pos zk8_98, if_pos ⟨xa, zc57, zc66, zc75, xcN⟩]
              rw [e] at hQ
              exact hQ
  refine zr_lswK hE eX12_comesTold_8 (by decide) (116) (148) 156 (116) (by decide) (by decide) (by decide) (fun zk8_116 => ?_) (fun zk8_116 => ?_)
  · have hx : w 67 ((0 : Int32).toNatClampNeg) = vs 0 := hS.1 (by rw [zk8_116]; decide)
    rw [hx]
    refine zr_aload_n hE eX12_comesTold_156 rfl ?_
    refine zr_iload_n hE eX12_comesTold_157 rfl ?_
    refine zr_callV1 hE eX12_comesTold_158 lX12_126 zs57 rfl rfl (by decide) (Nat.le_of_ble_eq_true rfl) (c_X12_isBowl ?_)
    refine zr_bne hE eX12_comesTold_161 (tgt := 166) (by decide) (fun zc161 => ?_) (fun zc161 => ?_)
    · have xb := isB_ok hM zc161
      refine zr_aload_n hE eX12_comesTold_166 rfl ?_
      refine zr_iload_n hE eX12_comesTold_167 rfl ?_
      refine zr_iconst hE eX12_comesTold_168 (v := 2) (by decide) ?_
      refine zr_iconst hE eX12_comesTold_169 (v := 1) (by decide) ?_
      refine zr_aload_n hE eX12_comesTold_170 rfl ?_
      refine zr_iload_n hE eX12_comesTold_171 rfl ?_
      refine zr_iconst hE eX12_comesTold_172 (v := 2) (by decide) ?_
      refine zr_callV2 hE eX12_comesTold_173 lX12_63 zs57 rfl rfl (by decide) (Nat.le_of_ble_eq_true rfl) (c_X12_get 2 xb.1 rfl (by decide) ?_)
      refine zr_isub hE eX12_comesTold_176 ?_
      refine zr_callV3 hE eX12_comesTold_177 lX12_122 zs57 rfl rfl (by decide) (Nat.le_of_ble_eq_true rfl) (c_X12_puts 2 xb.1 rfl (by decide) ?_)
      refine zr_iconst hE eX12_comesTold_180 (v := 1) (by decide) ?_
      refine hR.2.1 _ _ _ _ _ _ eX12_comesTold_181 rfl rfl ?_
      have e : mtl w cN c vs = some (wu w 58 (2 + 5 * (vs 0).toNatClampNeg + 2) (1 - mB w 2 (vs 0).toNatClampNeg)) := by unfold mtl; rw [if_neg zk8_98, if_pos zk8_116, if_pos xb.2.2.1]
      rw [e] at hQ
      exact hQ
    · refine zr_iconst hE eX12_comesTold_164 (v := 0) (by decide) ?_
      refine hR.2.1 _ _ _ _ _ _ eX12_comesTold_165 rfl rfl ?_
      have e : mtl w cN c vs = none := by unfold mtl; rw [if_neg zk8_98, if_pos zk8_116, if_neg (isB_no hM zc161)]
      rw [e] at hQ
      exact hQ
  refine zr_lswK hE eX12_comesTold_8 (by decide) (119) (139) 147 (119) (by decide) (by decide) (by decide) (fun zk8_119 => ?_) (fun zk8_119 => ?_)
  · have hx : w 67 ((0 : Int32).toNatClampNeg) = vs 0 := hS.1 (by rw [zk8_119]; decide)
    rw [hx]
    refine zr_aload_n hE eX12_comesTold_147 rfl ?_
    refine zr_getR hE eX12_comesTold_148 fX12_9 zs57 rfl ?_
    refine zr_iconst hE eX12_comesTold_151 (v := 1) (by decide) ?_
    refine zr_iload_n hE eX12_comesTold_152 rfl ?_
    refine zr_iast hE eX12_comesTold_153 zs58 (by unfold vp_in; decide) ?_
    refine zr_iconst hE eX12_comesTold_154 (v := 1) (by decide) ?_
    refine hR.2.1 _ _ _ _ _ _ eX12_comesTold_155 rfl rfl ?_
    have e : mtl w cN c vs = some (wu w 58 1 (vs 0)) := by unfold mtl; rw [if_neg zk8_98, if_neg zk8_116, if_pos zk8_119]
    rw [e] at hQ
    exact hQ
  refine zr_lookup hE eX12_comesTold_8 (by decide) (off := 174) (tgt := 182) ?_ (by decide) ?_
  · have zm98 := zne zk8_98 (v := 98) (by decide); have zm116 := zne zk8_116 (v := 116) (by decide); have zm119 := zne zk8_119 (v := 119) (by decide); simp only [Op.lookupswitch.offset_cons, Op.lookupswitch.offset_nil]; rw [if_neg (fun q => zm98 q.symm)]; rw [if_neg (fun q => zm116 q.symm)]; rw [if_neg (fun q => zm119 q.symm)]
  refine zr_aload_n hE eX12_comesTold_182 rfl ?_
  refine zr_getR hE eX12_comesTold_183 fX12_9 zs57 rfl ?_
  refine zr_iconst hE eX12_comesTold_186 (v := 0) (by decide) ?_
  refine zr_ialdv hE eX12_comesTold_187 zs58 (by unfold vp_in; decide) hM.2.1 ?_
  refine zr_if_ne hE eX12_comesTold_188 (tgt := 193) (by decide) (fun zc188 => ?_) (fun zc188 => ?_)
  · refine zr_aload_n hE eX12_comesTold_193 rfl ?_
    refine zr_getR hE eX12_comesTold_194 fX12_9 zs57 rfl ?_
    refine zr_iconst hE eX12_comesTold_197 (v := 0) (by decide) ?_
    refine zr_dup2 hE eX12_comesTold_198 rfl rfl ?_
    refine zr_ialdv hE eX12_comesTold_199 zs58 (by unfold vp_in; decide) hM.2.1 ?_
    refine zr_iconst hE eX12_comesTold_200 (v := 1) (by decide) ?_
    refine zr_isub hE eX12_comesTold_201 ?_
    show G _ _ (.int (nI cN - 1) :: _) _
    obtain ⟨c0, rfl⟩ : ∃ c0, cN = c0 + 1 := ⟨cN - 1, by have : cN ≠ 0 := fun q => zc188 (by rw [q]; rfl); omega⟩
    rw [nI_pred]
    refine zr_iast hE eX12_comesTold_202 zs58 (by unfold vp_in; decide) ?_
    refine zr_iconst hE eX12_comesTold_203 (v := 1) (by decide) ?_
    refine hR.2.1 _ _ _ _ _ _ eX12_comesTold_204 rfl rfl ?_
    have e : mtl w (c0 + 1) c vs = some (wu w 58 0 (nI c0)) := by unfold mtl; rw [if_neg zk8_98, if_neg zk8_116, if_neg zk8_119, if_neg (by omega)]; rfl
    rw [e] at hQ
    exact hQ
  · refine zr_iconst hE eX12_comesTold_191 (v := 0) (by decide) ?_
    refine hR.2.1 _ _ _ _ _ _ eX12_comesTold_192 rfl rfl ?_
    have e : mtl w cN c vs = none := by unfold mtl; rw [if_neg zk8_98, if_neg zk8_116, if_neg zk8_119, if_pos ((nI_0i (by have := hM.1; omega)).mp zc188)]
    rw [e] at hQ
    exact hQ

